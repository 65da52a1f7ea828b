/-! THE Z LAYER: the world's numbers as Int (an int cell holds Int32.ofInt, a long cell Int64.ofInt of it) -/
abbrev Mz : Type := Nat → Int → Int
def zI (I : Mz) : Mi := fun k j => Int32.ofInt (I k (j : Int))
def zJ (J : Mz) : Ml := fun k j => Int64.ofInt (J k (j : Int))
def zi (z : Int) : Value := .int (Int32.ofInt z)
def zl (z : Int) : Value := .long (Int64.ofInt z)
def zr (G : Gw) (k : Nat) : Value := .ref (G.2.2 k)
def Xz (E : Ev) (G : Gw) (I J : Mz) (pc : Nat) (lo : List (Option Value)) (st : List Value) : Prop := V E G (zI I) (zJ J) pc lo st
def sz (I : Mz) (k : Nat) (f : Int → Int) : Mz := fun a => if a = k then f else I a
def uz (f : Int → Int) (j v : Int) : Int → Int := fun b => if b = j then v else f b
noncomputable def zb (p : Prop) : Int := @ite Int p (Classical.propDecidable p) 1 0
def cz (a b : Int) : Int := if a < b then -1 else if a = b then 0 else 1
theorem zb_t {p : Prop} (h : p) : zb p = 1 := if_pos h
theorem zb_f {p : Prop} (h : ¬ p) : zb p = 0 := if_neg h
theorem zb_01 (p : Prop) : zb p = 0 ∨ zb p = 1 := by
  by_cases h : p
  · exact Or.inr (zb_t h)
  · exact Or.inl (zb_f h)
theorem zb_r (p : Prop) : -2147483648 ≤ zb p ∧ zb p ≤ 2147483647 := by
  rcases zb_01 p with h | h <;> rw [h] <;> decide
theorem zb_ne {p : Prop} : zb p ≠ 0 ↔ p := by
  by_cases h : p
  · rw [zb_t h]; exact ⟨fun _ => h, fun _ => by decide⟩
  · rw [zb_f h]; exact ⟨fun q => absurd rfl q, fun q => absurd q h⟩
theorem zb_eq {p : Prop} : zb p = 0 ↔ ¬ p := by
  by_cases h : p
  · rw [zb_t h]; exact ⟨fun q => absurd q (by decide), fun q => absurd h q⟩
  · rw [zb_f h]; exact ⟨fun _ => h, fun _ => rfl⟩
theorem sz_eq (I : Mz) (k : Nat) (f : Int → Int) : sz I k f k = f := by simp [sz]
theorem sz_ne (I : Mz) {k a : Nat} (f : Int → Int) (h : a ≠ k) : sz I k f a = I a := by simp [sz, h]
theorem sz_sz (I : Mz) (k : Nat) (f g : Int → Int) : sz (sz I k f) k g = sz I k g := by
  funext a; simp only [sz]; split <;> rfl
theorem sz_self (I : Mz) (k : Nat) : sz I k (I k) = I := by
  funext a; simp only [sz]; split
  · next h => rw [h]
  · rfl
theorem sz_swap (I : Mz) {k q : Nat} (f g : Int → Int) (h : k ≠ q) : sz (sz I k f) q g = sz (sz I q g) k f := by
  funext a; simp only [sz]
  by_cases h1 : a = q
  · subst h1; rw [if_pos rfl, if_neg (fun e => h e.symm), if_pos rfl]
  · rw [if_neg h1]; by_cases h2 : a = k
    · rw [if_pos h2, if_pos h2]
    · rw [if_neg h2, if_neg h2, if_neg h1]
theorem uz_eq (f : Int → Int) (j v : Int) : uz f j v j = v := by simp [uz]
theorem uz_ne (f : Int → Int) {j b : Int} (v : Int) (h : b ≠ j) : uz f j v b = f b := by simp [uz, h]
theorem uz_uz (f : Int → Int) (j v w : Int) : uz (uz f j v) j w = uz f j w := by
  funext b; simp only [uz]; split <;> rfl
theorem uz_self (f : Int → Int) (j : Int) : uz f j (f j) = f := by
  funext b; simp only [uz]; split
  · next h => rw [h]
  · rfl
theorem zI_sz (I : Mz) (k j : Nat) (v : Int) : zI (sz I k (uz (I k) (j : Int) v)) = sr (zI I) k (up (zI I k) j (Int32.ofInt v)) := by
  funext a b
  by_cases ha : a = k
  · subst ha
    by_cases hb : b = j
    · subst hb; simp [zI, sz, sr, uz, up]
    · simp [zI, sz, sr, uz, up, hb, Int.natCast_inj]
  · simp [zI, sz, sr, ha]
theorem zJ_sz (I : Mz) (k j : Nat) (v : Int) : zJ (sz I k (uz (I k) (j : Int) v)) = sr (zJ I) k (up (zJ I k) j (Int64.ofInt v)) := by
  funext a b
  by_cases ha : a = k
  · subst ha
    by_cases hb : b = j
    · subst hb; simp [zJ, sz, sr, uz, up]
    · simp [zJ, sz, sr, uz, up, hb, Int.natCast_inj]
  · simp [zJ, sz, sr, ha]
theorem t32 {a : Int} (h : -2147483648 ≤ a ∧ a ≤ 2147483647) : (Int32.ofInt a).toInt = a := Int32.toInt_ofInt_of_le (by omega) (by omega)
theorem t64 {a : Int} (h : -9223372036854775808 ≤ a ∧ a ≤ 9223372036854775807) : (Int64.ofInt a).toInt = a := Int64.toInt_ofInt_of_le (by omega) (by omega)
theorem lt32 {a b : Int} (ha : -2147483648 ≤ a ∧ a ≤ 2147483647) (hb : -2147483648 ≤ b ∧ b ≤ 2147483647) : Int32.ofInt a < Int32.ofInt b ↔ a < b := by
  rw [Int32.lt_iff_toInt_lt, t32 ha, t32 hb]
theorem le32 {a b : Int} (ha : -2147483648 ≤ a ∧ a ≤ 2147483647) (hb : -2147483648 ≤ b ∧ b ≤ 2147483647) : Int32.ofInt a ≤ Int32.ofInt b ↔ a ≤ b := by
  rw [Int32.le_iff_toInt_le, t32 ha, t32 hb]
theorem eq32 {a b : Int} (ha : -2147483648 ≤ a ∧ a ≤ 2147483647) (hb : -2147483648 ≤ b ∧ b ≤ 2147483647) : Int32.ofInt a = Int32.ofInt b ↔ a = b := by
  rw [← Int32.toInt_inj, t32 ha, t32 hb]
theorem nIz {i : Int} (h : 0 ≤ i) : Int32.ofInt i = nI i.toNat := by
  obtain ⟨j, rfl⟩ := Int.eq_ofNat_of_zero_le h
  exact Int32.ofInt_eq_ofNat
theorem arrV_ext {c : ClassId} {N : Nat} {f g : Nat → Value} (h : ∀ j, j < N → f j = g j) : arrV c N f = arrV c N g := by
  have : (fun j : Fin N => f j.val) = (fun j : Fin N => g j.val) := funext fun j => h j.val j.isLt
  simp only [arrV, this]
theorem cel_ext {G : Gw} {I I' : Mi} {J J' : Ml} {k a : Nat} {H : Heap} (hI : ∀ k j, (13 ≤ kd k → j < ln k) → I k j = I' k j) (hJ : ∀ k j, j < ln k → J k j = J' k j) (h : va_at G.1 vwCl (a, cel G I J k) H) : va_at G.1 vwCl (a, cel G I' J' k) H := by
  by_cases c1 : kd k < 13
  · have e : cel G I J k = cel G I' J' k := by
      have : (fun (j : Nat) (b : Bool) => if b = true then Value.int (I k j) else .ref (G.2.2 (rf k j))) = (fun (j : Nat) (b : Bool) => if b = true then Value.int (I' k j) else .ref (G.2.2 (rf k j))) := by
        funext j b; rw [hI k j (fun h => by omega)]
      simp only [cel, if_pos c1, this]
    rw [← e]; exact h
  · by_cases c2 : kd k = 14
    · rw [cel_l c2] at h ⊢
      have h : H[a]? = some (arrV (G.2.1 1) (ln k) (fun j => .long (J k j))) := h
      show H[a]? = some (arrV (G.2.1 1) (ln k) (fun j => .long (J' k j)))
      rw [h, arrV_ext (fun j hj => by rw [hJ k j hj])]
    · by_cases c3 : kd k < 16
      · have e : ∀ (I : Mi) (J : Ml), cel G I J k = .inl (G.2.1 (kd k - 13), ln k, .inl (I k)) := fun I J => by simp only [cel, if_neg c1, if_neg c2, if_pos c3]
        rw [e] at h ⊢
        have h : H[a]? = some (arrV (G.2.1 (kd k - 13)) (ln k) (fun j => .int (I k j))) := h
        show H[a]? = some (arrV (G.2.1 (kd k - 13)) (ln k) (fun j => .int (I' k j)))
        rw [h, arrV_ext (fun j hj => by rw [hI k j (fun _ => hj)])]
      · have e : cel G I J k = cel G I' J' k := by simp only [cel, if_neg c1, if_neg c2, if_neg c3]
        rw [← e]; exact h
theorem V_ext {E : Ev} {G : Gw} {I I' : Mi} {J J' : Ml} {pc : Nat} {lo : List (Option Value)} {st : List Value} (hI : ∀ k j, (13 ≤ kd k → j < ln k) → I k j = I' k j) (hJ : ∀ k j, j < ln k → J k j = J' k j) (h : V E G I' J' pc lo st) : V E G I J pc lo st := by
  obtain ⟨p, l, e, R, s, m, args, below, meth, c, Q, A, nL, cl, sl⟩ := E
  intro H locs hP hS ls hl
  refine h H locs (fun k q hk => ?_) hS ls hl
  obtain ⟨hk2, rfl⟩ := wl_of hk
  exact cel_ext hI hJ (hP k _ (wl_get G I J hk2))
theorem Z_ext {E : Ev} {G : Gw} {I I' J J' : Mz} {pc : Nat} {lo : List (Option Value)} {st : List Value} (hI : ∀ (k : Nat) (j : Int), 0 ≤ j → (13 ≤ kd k → j < ln k) → I k j = I' k j) (hJ : ∀ (k : Nat) (j : Int), 0 ≤ j → j < ln k → J k j = J' k j) (h : Xz E G I' J' pc lo st) : Xz E G I J pc lo st :=
  V_ext (fun k j hj => by simp only [zI]; rw [hI k j (by omega) (fun q => by have := hj q; omega)]) (fun k j hj => by simp only [zJ]; rw [hJ k j (by omega) (by omega)]) h
/-- one array cell alone -/
theorem Z_ext1 {E : Ev} {G : Gw} {I J : Mz} {pc k : Nat} {f g : Int → Int} {lo : List (Option Value)} {st : List Value} (hk : 13 ≤ kd k) (hf : ∀ j : Int, 0 ≤ j → j < ln k → f j = g j) (h : Xz E G (sz I k g) J pc lo st) : Xz E G (sz I k f) J pc lo st :=
  Z_ext (fun a j h0 h1 => by
    by_cases ha : a = k
    · subst ha; rw [sz_eq, sz_eq]; exact hf j h0 (h1 hk)
    · rw [sz_ne _ _ ha, sz_ne _ _ ha]) (fun _ _ _ _ => rfl) h
theorem Z_ext1J {E : Ev} {G : Gw} {I J : Mz} {pc k : Nat} {f g : Int → Int} {lo : List (Option Value)} {st : List Value} (hf : ∀ j : Int, 0 ≤ j → j < ln k → f j = g j) (h : Xz E G I (sz J k g) pc lo st) : Xz E G I (sz J k f) pc lo st :=
  Z_ext (fun _ _ _ _ => rfl) (fun a j h0 h1 => by
    by_cases ha : a = k
    · subst ha; rw [sz_eq, sz_eq]; exact hf j h0 h1
    · rw [sz_ne _ _ ha, sz_ne _ _ ha]) h
/-- contracts -/
def pZ (post : Option Value → Mz → Mz → Prop) : Option Value → Mi → Ml → Prop := fun v I' J' => ∃ (Iz Jz : Mz), I' = zI Iz ∧ J' = zJ Jz ∧ post v Iz Jz
def Cz (l : Launch) (y : MethodName) (cc : ByteArray) (n : Nat) (ret : Option FieldType) (d : Nat) (G : Gw) (as : List Value) (I J : Mz) (post : Option Value → Mz → Mz → Prop) : Prop := Ct l y cc n ret d G as (zI I) (zJ J) (pZ post)
def pR (v : Option Value) (I J : Mz) : Option Value → Mz → Mz → Prop := fun v' I' J' => v' = v ∧ I' = I ∧ J' = J
def Oz (E : Ev) (G : Gw) (ret : Option FieldType) (post : Option Value → Mz → Mz → Prop) : Prop := Okr E G ret (pZ post)
theorem Cz.of {l : Launch} {y : MethodName} {cc : ByteArray} {n : Nat} {ret : Option FieldType} {d : Nat} {G : Gw} {as : List Value} {I J : Mz} {post : Option Value → Mz → Mz → Prop} (hy : plainName y.cls = true) (hn : (lg_sl as).length ≤ n) (lo : List (Option Value)) (hlo : lo = loE as ++ List.replicate (n - (lg_sl as).length) none)
    (body : ∀ E : Ev, Ok E G y.cls cc n d → Oz E G ret post → E.2.1 = l → Xz E G I J 0 lo []) : Cz l y cc n ret d G as I J post := Ct.of hy hn lo hlo body
section ZR
variable {E : Ev} {G : Gw} {I J : Mz} {own : String} {cc : ByteArray} {n d pc : Nat} {lo lo' : List (Option Value)} {st : List Value}
theorem Z_less (hs : loSub lo' lo) (k : Xz E G I J pc lo' st) : Xz E G I J pc lo st := V_less hs k
theorem Z_to {I' J' : Mz} {st' : List Value} (k : Xz E G I' J' pc lo' st') (h1 : I = I') (h2 : J = J') (h3 : lo = lo') (h4 : st = st') : Xz E G I J pc lo st := by subst h1; subst h2; subst h3; subst h4; exact k

theorem Z_iconst (ok : Ok E G own cc n d) {i : Int} (hd : decode cc pc = .ok (.iconst i, 1)) (k : Xz E G I J (pc + 1) lo (zi i :: st)) : Xz E G I J pc lo st := V_iconst ok hd rfl k
theorem Z_bipush (ok : Ok E G own cc n d) {i : Int} (hd : decode cc pc = .ok (.bipush i, 2)) (hv : (Int8.ofInt i).toInt32 = Int32.ofInt i) (k : Xz E G I J (pc + 2) lo (zi i :: st)) : Xz E G I J pc lo st := V_bipush ok hd hv k
theorem Z_sipush (ok : Ok E G own cc n d) {i : Int} (hd : decode cc pc = .ok (.sipush i, 3)) (hv : (Int16.ofInt i).toInt32 = Int32.ofInt i) (k : Xz E G I J (pc + 3) lo (zi i :: st)) : Xz E G I J pc lo st := V_sipush ok hd hv k
theorem Z_lconst (ok : Ok E G own cc n d) {i : Fin 2} {z : Int} (hd : decode cc pc = .ok (.lconst i, 1)) (hv : Int64.ofNat (i : Nat) = Int64.ofInt z) (k : Xz E G I J (pc + 1) lo (zl z :: st)) : Xz E G I J pc lo st := V_lconst ok hd hv k
theorem Z_ldc2 (ok : Ok E G own cc n d) {i : Nat} {v : Int64} {z : Int} (hd : decode cc pc = .ok (.ldc2_w i, 3)) (hv : Cond.constantLong own i v ∈ mS) (hz : v = Int64.ofInt z) (k : Xz E G I J (pc + 3) lo (zl z :: st)) : Xz E G I J pc lo st := V_ldc2 ok hd hv (by rw [hz]; exact k)
theorem Z_ldcw (ok : Ok E G own cc n d) {i : Nat} {v : Int32} {z : Int} (hd : decode cc pc = .ok (.ldc_w i, 3)) (hv : Cond.constant own i v ∈ mS) (hz : v = Int32.ofInt z) (k : Xz E G I J (pc + 3) lo (zi z :: st)) : Xz E G I J pc lo st := V_ldcw ok hd hv (by rw [hz]; exact k)
theorem Z_iadd (ok : Ok E G own cc n d) {a b : Int} (hd : decode cc pc = .ok (.iadd, 1)) (k : Xz E G I J (pc + 1) lo (zi (a + b) :: st)) : Xz E G I J pc lo (zi b :: zi a :: st) := V_iadd ok hd (by rw [← Int32.ofInt_add]; exact k)
theorem Z_isub (ok : Ok E G own cc n d) {a b : Int} (hd : decode cc pc = .ok (.isub, 1)) (k : Xz E G I J (pc + 1) lo (zi (a - b) :: st)) : Xz E G I J pc lo (zi b :: zi a :: st) := V_isub ok hd (by rw [← Int32.ofInt_sub]; exact k)
theorem Z_imul (ok : Ok E G own cc n d) {a b : Int} (hd : decode cc pc = .ok (.imul, 1)) (k : Xz E G I J (pc + 1) lo (zi (a * b) :: st)) : Xz E G I J pc lo (zi b :: zi a :: st) := V_imul ok hd (by rw [← Int32.ofInt_mul]; exact k)
theorem Z_ladd (ok : Ok E G own cc n d) {a b : Int} (hd : decode cc pc = .ok (.ladd, 1)) (k : Xz E G I J (pc + 1) lo (zl (a + b) :: st)) : Xz E G I J pc lo (zl b :: zl a :: st) := V_ladd ok hd (by rw [← Int64.ofInt_add]; exact k)
theorem Z_lmul (ok : Ok E G own cc n d) {a b : Int} (hd : decode cc pc = .ok (.lmul, 1)) (k : Xz E G I J (pc + 1) lo (zl (a * b) :: st)) : Xz E G I J pc lo (zl b :: zl a :: st) := V_lmul ok hd (by rw [← Int64.ofInt_mul]; exact k)
theorem Z_ineg (ok : Ok E G own cc n d) {a : Int} (hd : decode cc pc = .ok (.ineg, 1)) (k : Xz E G I J (pc + 1) lo (zi (-a) :: st)) : Xz E G I J pc lo (zi a :: st) := V_ineg ok hd (by rw [← Int32.ofInt_neg]; exact k)
theorem div32 {a b : Int} (ha : 0 ≤ a) (ha2 : a ≤ 2147483647) (hb : 0 < b) (hb2 : b ≤ 2147483647) : Int32.ofInt a / Int32.ofInt b = Int32.ofInt (a / b) := by
  rw [← Int32.ofInt_tdiv (by exact Int.le_trans (by decide) ha) (by exact Int.le_trans ha2 (by decide)) (by exact Int.le_trans (by decide) (Int.le_of_lt hb)) (by exact Int.le_trans hb2 (by decide)), Int.tdiv_eq_ediv_of_nonneg ha]
theorem div32T {a b : Int} (ha : -2147483648 ≤ a ∧ a ≤ 2147483647) (hb : 0 < b) (hb2 : b ≤ 2147483647) : Int32.ofInt a / Int32.ofInt b = Int32.ofInt (a.tdiv b) := by
  rw [← Int32.ofInt_tdiv (by exact Int.le_trans (by decide) ha.1) (by exact Int.le_trans ha.2 (by decide)) (by exact Int.le_trans (by decide) (Int.le_of_lt hb)) (by exact Int.le_trans hb2 (by decide))]
theorem div64T {a b : Int} (ha : -9223372036854775808 ≤ a ∧ a ≤ 9223372036854775807) (hb : 0 < b) (hb2 : b ≤ 2147483647) : Int64.ofInt a / Int64.ofInt b = Int64.ofInt (a.tdiv b) := by
  rw [← Int64.ofInt_tdiv (by exact Int.le_trans (by decide) ha.1) (by exact Int.le_trans ha.2 (by decide)) (by exact Int.le_trans (by decide) (Int.le_of_lt hb)) (by exact Int.le_trans hb2 (by decide))]
theorem ne0_32 {b : Int} (hb : 0 < b) (hb2 : b ≤ 2147483647) : ¬ Int32.ofInt b = 0 := by
  intro h
  have := (eq32 (a := b) (b := 0) (by omega) (by omega)).mp (h.trans (by decide))
  omega
theorem ne0_64 {b : Int} (hb : 0 < b) (hb2 : b ≤ 2147483647) : ¬ Int64.ofInt b = 0 := by
  intro h
  have h2 := congrArg Int64.toInt h
  rw [t64 (by omega)] at h2
  have : (0 : Int64).toInt = 0 := by decide
  omega
theorem Z_idiv (ok : Ok E G own cc n d) {a b : Int} (hd : decode cc pc = .ok (.idiv, 1)) (ha : 0 ≤ a) (ha2 : a ≤ 2147483647) (hb : 0 < b) (hb2 : b ≤ 2147483647) (k : Xz E G I J (pc + 1) lo (zi (a / b) :: st)) : Xz E G I J pc lo (zi b :: zi a :: st) := V_idiv ok hd (ne0_32 hb hb2) (by rw [div32 ha ha2 hb hb2]; exact k)
theorem Z_irem (ok : Ok E G own cc n d) {a b : Int} (hd : decode cc pc = .ok (.irem, 1)) (ha : 0 ≤ a) (ha2 : a ≤ 2147483647) (hb : 0 < b) (hb2 : b ≤ 2147483647) (k : Xz E G I J (pc + 1) lo (zi (a % b) :: st)) : Xz E G I J pc lo (zi b :: zi a :: st) := V_irem ok hd (ne0_32 hb hb2) (by rw [div32 ha ha2 hb hb2, ← Int32.ofInt_mul, ← Int32.ofInt_sub, show a - a / b * b = a % b by rw [Int.emod_def, Int.mul_comm]]; exact k)
theorem Z_iremT (ok : Ok E G own cc n d) {a b : Int} (hd : decode cc pc = .ok (.irem, 1)) (ha : -2147483648 ≤ a ∧ a ≤ 2147483647) (hb : 0 < b) (hb2 : b ≤ 2147483647) (k : Xz E G I J (pc + 1) lo (zi (a.tmod b) :: st)) : Xz E G I J pc lo (zi b :: zi a :: st) := V_irem ok hd (ne0_32 hb hb2) (by rw [div32T ha hb hb2, ← Int32.ofInt_mul, ← Int32.ofInt_sub, show a - a.tdiv b * b = a.tmod b by rw [Int.tmod_def, Int.mul_comm]]; exact k)
theorem Z_lremT (ok : Ok E G own cc n d) {a b : Int} (hd : decode cc pc = .ok (.lrem, 1)) (ha : -9223372036854775808 ≤ a ∧ a ≤ 9223372036854775807) (hb : 0 < b) (hb2 : b ≤ 2147483647) (k : Xz E G I J (pc + 1) lo (zl (a.tmod b) :: st)) : Xz E G I J pc lo (zl b :: zl a :: st) := V_lrem ok hd (ne0_64 hb hb2) (by rw [div64T ha hb hb2, ← Int64.ofInt_mul, ← Int64.ofInt_sub, show a - a.tdiv b * b = a.tmod b by rw [Int.tmod_def, Int.mul_comm]]; exact k)
theorem Z_i2l (ok : Ok E G own cc n d) {a : Int} (hd : decode cc pc = .ok (.i2l, 1)) (ha : -2147483648 ≤ a ∧ a ≤ 2147483647) (k : Xz E G I J (pc + 1) lo (zl a :: st)) : Xz E G I J pc lo (zi a :: st) := V_i2l ok hd (by rw [Int32.toInt64_ofInt (Int.le_trans (by decide) ha.1) (Int.le_trans ha.2 (by decide))]; exact k)
theorem Z_l2i (ok : Ok E G own cc n d) {a : Int} (hd : decode cc pc = .ok (.l2i, 1)) (k : Xz E G I J (pc + 1) lo (zi a :: st)) : Xz E G I J pc lo (zl a :: st) := V_l2i ok hd (by rw [Int64.toInt32_ofInt]; exact k)
theorem and1_32 {a : Int} (h : a = 0 ∨ a = 1) : Int32.ofInt a &&& Int32.ofInt 1 = Int32.ofInt a := by rcases h with rfl | rfl <;> decide
theorem or1_32 {a : Int} (h : a = 0 ∨ a = 1) : Int32.ofInt a ||| Int32.ofInt 1 = Int32.ofInt 1 := by rcases h with rfl | rfl <;> decide
theorem and0_32 {a : Int} (h : a = 0 ∨ a = 1) : Int32.ofInt a &&& Int32.ofInt 0 = Int32.ofInt 0 := by rcases h with rfl | rfl <;> decide
theorem or0_32 {a : Int} (h : a = 0 ∨ a = 1) : Int32.ofInt a ||| Int32.ofInt 0 = Int32.ofInt a := by rcases h with rfl | rfl <;> decide
theorem Z_iand1 (ok : Ok E G own cc n d) {a : Int} (hd : decode cc pc = .ok (.iand, 1)) (ha : a = 0 ∨ a = 1) (k : Xz E G I J (pc + 1) lo (zi a :: st)) : Xz E G I J pc lo (zi 1 :: zi a :: st) := V_iand ok hd (by rw [and1_32 ha]; exact k)
theorem Z_iand0 (ok : Ok E G own cc n d) {a : Int} (hd : decode cc pc = .ok (.iand, 1)) (ha : a = 0 ∨ a = 1) (k : Xz E G I J (pc + 1) lo (zi 0 :: st)) : Xz E G I J pc lo (zi 0 :: zi a :: st) := V_iand ok hd (by rw [and0_32 ha]; exact k)
theorem Z_ior1 (ok : Ok E G own cc n d) {a : Int} (hd : decode cc pc = .ok (.ior, 1)) (ha : a = 0 ∨ a = 1) (k : Xz E G I J (pc + 1) lo (zi 1 :: st)) : Xz E G I J pc lo (zi 1 :: zi a :: st) := V_ior ok hd (by rw [or1_32 ha]; exact k)
theorem Z_ior0 (ok : Ok E G own cc n d) {a : Int} (hd : decode cc pc = .ok (.ior, 1)) (ha : a = 0 ∨ a = 1) (k : Xz E G I J (pc + 1) lo (zi a :: st)) : Xz E G I J pc lo (zi 0 :: zi a :: st) := V_ior ok hd (by rw [or0_32 ha]; exact k)
theorem Z_dup (ok : Ok E G own cc n d) {v : Value} (hd : decode cc pc = .ok (.dup, 1)) (hc : v.category = 1) (k : Xz E G I J (pc + 1) lo (v :: v :: st)) : Xz E G I J pc lo (v :: st) := V_dup ok hd hc k
theorem Z_pop (ok : Ok E G own cc n d) {v : Value} (hd : decode cc pc = .ok (.pop, 1)) (hc : v.category = 1) (k : Xz E G I J (pc + 1) lo st) : Xz E G I J pc lo (v :: st) := V_pop ok hd hc k
theorem Z_dup2 (ok : Ok E G own cc n d) {v w : Value} (hd : decode cc pc = .ok (.dup2, 1)) (hc : v.category = 1) (hc2 : w.category = 1) (k : Xz E G I J (pc + 1) lo (v :: w :: v :: w :: st)) : Xz E G I J pc lo (v :: w :: st) := V_dup2 ok hd hc hc2 k
theorem Z_dup_x1 (ok : Ok E G own cc n d) {v w : Value} (hd : decode cc pc = .ok (.dup_x1, 1)) (hc : v.category = 1) (hc2 : w.category = 1) (k : Xz E G I J (pc + 1) lo (v :: w :: v :: st)) : Xz E G I J pc lo (v :: w :: st) := V_dup_x1 ok hd hc hc2 k
theorem Z_goto (ok : Ok E G own cc n d) {off : Int} {tgt : Nat} (hd : decode cc pc = .ok (.goto off, 3)) (ht : (pc : Int) + off = (tgt : Int)) (k : Xz E G I J tgt lo st) : Xz E G I J pc lo st := V_goto ok hd ht k
theorem cmp64 {a b : Int} (ha : -9223372036854775808 ≤ a ∧ a ≤ 9223372036854775807) (hb : -9223372036854775808 ≤ b ∧ b ≤ 9223372036854775807) : lg_cmp (Int64.ofInt a) (Int64.ofInt b) = Int32.ofInt (cz a b) := by
  simp only [lg_cmp, cz, gt_iff_lt, Int64.lt_iff_toInt_lt, ← Int64.toInt_inj, t64 ha, t64 hb]
  by_cases h1 : b < a
  · rw [if_pos h1, if_neg (by omega), if_neg (by omega)]; rfl
  · rw [if_neg h1]
    by_cases h2 : a = b
    · rw [if_pos h2, if_neg (by omega), if_pos h2]; rfl
    · rw [if_neg h2, if_pos (by omega)]; rfl
theorem cz_r (a b : Int) : -2147483648 ≤ cz a b ∧ cz a b ≤ 2147483647 := by
  simp only [cz]; split
  · decide
  · split <;> decide
theorem Z_lcmp (ok : Ok E G own cc n d) {a b : Int} (hd : decode cc pc = .ok (.lcmp, 1)) (ha : -9223372036854775808 ≤ a ∧ a ≤ 9223372036854775807) (hb : -9223372036854775808 ≤ b ∧ b ≤ 9223372036854775807) (k : Xz E G I J (pc + 1) lo (zi (cz a b) :: st)) : Xz E G I J pc lo (zl b :: zl a :: st) := V_lcmp ok hd (by rw [cmp64 ha hb]; exact k)
theorem Z_if_eq (ok : Ok E G own cc n d) {a : Int} {off : Int} {tgt : Nat} (hd : decode cc pc = .ok (.ifCond .eq off, 3)) (ht : (pc : Int) + off = (tgt : Int)) (ha : -2147483648 ≤ a ∧ a ≤ 2147483647) (kt : a = 0 → Xz E G I J tgt lo st) (kf : a ≠ 0 → Xz E G I J (pc + 3) lo st) : Xz E G I J pc lo (zi a :: st) := V_if_eq ok hd ht (fun h => kt ((eq32 ha (show (-2147483648 : Int) ≤ 0 ∧ (0 : Int) ≤ 2147483647 by decide)).mp h)) (fun h => kf (fun q => h ((eq32 ha (show (-2147483648 : Int) ≤ 0 ∧ (0 : Int) ≤ 2147483647 by decide)).mpr q)))
theorem Z_icmp_eq (ok : Ok E G own cc n d) {a b : Int} {off : Int} {tgt : Nat} (hd : decode cc pc = .ok (.if_icmp .eq off, 3)) (ht : (pc : Int) + off = (tgt : Int)) (ha : -2147483648 ≤ a ∧ a ≤ 2147483647) (hb : -2147483648 ≤ b ∧ b ≤ 2147483647) (kt : a = b → Xz E G I J tgt lo st) (kf : a ≠ b → Xz E G I J (pc + 3) lo st) : Xz E G I J pc lo (zi b :: zi a :: st) := V_icmp_eq ok hd ht (fun h => kt ((eq32 ha hb).mp h)) (fun h => kf (fun q => h ((eq32 ha hb).mpr q)))
theorem Z_if_ne (ok : Ok E G own cc n d) {a : Int} {off : Int} {tgt : Nat} (hd : decode cc pc = .ok (.ifCond .ne off, 3)) (ht : (pc : Int) + off = (tgt : Int)) (ha : -2147483648 ≤ a ∧ a ≤ 2147483647) (kt : a ≠ 0 → Xz E G I J tgt lo st) (kf : a = 0 → Xz E G I J (pc + 3) lo st) : Xz E G I J pc lo (zi a :: st) := V_if_ne ok hd ht (fun h => kt (fun q => h ((eq32 ha (show (-2147483648 : Int) ≤ 0 ∧ (0 : Int) ≤ 2147483647 by decide)).mpr q))) (fun h => kf ((eq32 ha (show (-2147483648 : Int) ≤ 0 ∧ (0 : Int) ≤ 2147483647 by decide)).mp h))
theorem Z_icmp_ne (ok : Ok E G own cc n d) {a b : Int} {off : Int} {tgt : Nat} (hd : decode cc pc = .ok (.if_icmp .ne off, 3)) (ht : (pc : Int) + off = (tgt : Int)) (ha : -2147483648 ≤ a ∧ a ≤ 2147483647) (hb : -2147483648 ≤ b ∧ b ≤ 2147483647) (kt : a ≠ b → Xz E G I J tgt lo st) (kf : a = b → Xz E G I J (pc + 3) lo st) : Xz E G I J pc lo (zi b :: zi a :: st) := V_icmp_ne ok hd ht (fun h => kt (fun q => h ((eq32 ha hb).mpr q))) (fun h => kf ((eq32 ha hb).mp h))
theorem Z_if_lt (ok : Ok E G own cc n d) {a : Int} {off : Int} {tgt : Nat} (hd : decode cc pc = .ok (.ifCond .lt off, 3)) (ht : (pc : Int) + off = (tgt : Int)) (ha : -2147483648 ≤ a ∧ a ≤ 2147483647) (kt : a < 0 → Xz E G I J tgt lo st) (kf : 0 ≤ a → Xz E G I J (pc + 3) lo st) : Xz E G I J pc lo (zi a :: st) := V_if_lt ok hd ht (fun h => kt ((lt32 ha (show (-2147483648 : Int) ≤ 0 ∧ (0 : Int) ≤ 2147483647 by decide)).mp h)) (fun h => kf (Int.not_lt.mp (fun q => h ((lt32 ha (show (-2147483648 : Int) ≤ 0 ∧ (0 : Int) ≤ 2147483647 by decide)).mpr q))))
theorem Z_icmp_lt (ok : Ok E G own cc n d) {a b : Int} {off : Int} {tgt : Nat} (hd : decode cc pc = .ok (.if_icmp .lt off, 3)) (ht : (pc : Int) + off = (tgt : Int)) (ha : -2147483648 ≤ a ∧ a ≤ 2147483647) (hb : -2147483648 ≤ b ∧ b ≤ 2147483647) (kt : a < b → Xz E G I J tgt lo st) (kf : b ≤ a → Xz E G I J (pc + 3) lo st) : Xz E G I J pc lo (zi b :: zi a :: st) := V_icmp_lt ok hd ht (fun h => kt ((lt32 ha hb).mp h)) (fun h => kf (Int.not_lt.mp (fun q => h ((lt32 ha hb).mpr q))))
theorem Z_if_ge (ok : Ok E G own cc n d) {a : Int} {off : Int} {tgt : Nat} (hd : decode cc pc = .ok (.ifCond .ge off, 3)) (ht : (pc : Int) + off = (tgt : Int)) (ha : -2147483648 ≤ a ∧ a ≤ 2147483647) (kt : 0 ≤ a → Xz E G I J tgt lo st) (kf : a < 0 → Xz E G I J (pc + 3) lo st) : Xz E G I J pc lo (zi a :: st) := V_if_ge ok hd ht (fun h => kt ((le32 (show (-2147483648 : Int) ≤ 0 ∧ (0 : Int) ≤ 2147483647 by decide) ha).mp h)) (fun h => kf (Int.not_le.mp (fun q => h ((le32 (show (-2147483648 : Int) ≤ 0 ∧ (0 : Int) ≤ 2147483647 by decide) ha).mpr q))))
theorem Z_icmp_ge (ok : Ok E G own cc n d) {a b : Int} {off : Int} {tgt : Nat} (hd : decode cc pc = .ok (.if_icmp .ge off, 3)) (ht : (pc : Int) + off = (tgt : Int)) (ha : -2147483648 ≤ a ∧ a ≤ 2147483647) (hb : -2147483648 ≤ b ∧ b ≤ 2147483647) (kt : b ≤ a → Xz E G I J tgt lo st) (kf : a < b → Xz E G I J (pc + 3) lo st) : Xz E G I J pc lo (zi b :: zi a :: st) := V_icmp_ge ok hd ht (fun h => kt ((le32 hb ha).mp h)) (fun h => kf (Int.not_le.mp (fun q => h ((le32 hb ha).mpr q))))
theorem Z_if_gt (ok : Ok E G own cc n d) {a : Int} {off : Int} {tgt : Nat} (hd : decode cc pc = .ok (.ifCond .gt off, 3)) (ht : (pc : Int) + off = (tgt : Int)) (ha : -2147483648 ≤ a ∧ a ≤ 2147483647) (kt : 0 < a → Xz E G I J tgt lo st) (kf : a ≤ 0 → Xz E G I J (pc + 3) lo st) : Xz E G I J pc lo (zi a :: st) := V_if_gt ok hd ht (fun h => kt ((lt32 (show (-2147483648 : Int) ≤ 0 ∧ (0 : Int) ≤ 2147483647 by decide) ha).mp h)) (fun h => kf (Int.not_lt.mp (fun q => h ((lt32 (show (-2147483648 : Int) ≤ 0 ∧ (0 : Int) ≤ 2147483647 by decide) ha).mpr q))))
theorem Z_icmp_gt (ok : Ok E G own cc n d) {a b : Int} {off : Int} {tgt : Nat} (hd : decode cc pc = .ok (.if_icmp .gt off, 3)) (ht : (pc : Int) + off = (tgt : Int)) (ha : -2147483648 ≤ a ∧ a ≤ 2147483647) (hb : -2147483648 ≤ b ∧ b ≤ 2147483647) (kt : b < a → Xz E G I J tgt lo st) (kf : a ≤ b → Xz E G I J (pc + 3) lo st) : Xz E G I J pc lo (zi b :: zi a :: st) := V_icmp_gt ok hd ht (fun h => kt ((lt32 hb ha).mp h)) (fun h => kf (Int.not_lt.mp (fun q => h ((lt32 hb ha).mpr q))))
theorem Z_if_le (ok : Ok E G own cc n d) {a : Int} {off : Int} {tgt : Nat} (hd : decode cc pc = .ok (.ifCond .le off, 3)) (ht : (pc : Int) + off = (tgt : Int)) (ha : -2147483648 ≤ a ∧ a ≤ 2147483647) (kt : a ≤ 0 → Xz E G I J tgt lo st) (kf : 0 < a → Xz E G I J (pc + 3) lo st) : Xz E G I J pc lo (zi a :: st) := V_if_le ok hd ht (fun h => kt ((le32 ha (show (-2147483648 : Int) ≤ 0 ∧ (0 : Int) ≤ 2147483647 by decide)).mp h)) (fun h => kf (Int.not_le.mp (fun q => h ((le32 ha (show (-2147483648 : Int) ≤ 0 ∧ (0 : Int) ≤ 2147483647 by decide)).mpr q))))
theorem Z_icmp_le (ok : Ok E G own cc n d) {a b : Int} {off : Int} {tgt : Nat} (hd : decode cc pc = .ok (.if_icmp .le off, 3)) (ht : (pc : Int) + off = (tgt : Int)) (ha : -2147483648 ≤ a ∧ a ≤ 2147483647) (hb : -2147483648 ≤ b ∧ b ≤ 2147483647) (kt : a ≤ b → Xz E G I J tgt lo st) (kf : b < a → Xz E G I J (pc + 3) lo st) : Xz E G I J pc lo (zi b :: zi a :: st) := V_icmp_le ok hd ht (fun h => kt ((le32 ha hb).mp h)) (fun h => kf (Int.not_le.mp (fun q => h ((le32 ha hb).mpr q))))
theorem Z_if_eqB (ok : Ok E G own cc n d) {p : Prop} {off : Int} {tgt : Nat} (hd : decode cc pc = .ok (.ifCond .eq off, 3)) (ht : (pc : Int) + off = (tgt : Int)) (kt : ¬ p → Xz E G I J tgt lo st) (kf : p → Xz E G I J (pc + 3) lo st) : Xz E G I J pc lo (zi (zb p) :: st) := Z_if_eq ok hd ht (zb_r p) (fun h => kt (zb_eq.mp h)) (fun h => kf (zb_ne.mp h))
theorem Z_if_neB (ok : Ok E G own cc n d) {p : Prop} {off : Int} {tgt : Nat} (hd : decode cc pc = .ok (.ifCond .ne off, 3)) (ht : (pc : Int) + off = (tgt : Int)) (kt : p → Xz E G I J tgt lo st) (kf : ¬ p → Xz E G I J (pc + 3) lo st) : Xz E G I J pc lo (zi (zb p) :: st) := Z_if_ne ok hd ht (zb_r p) (fun h => kt (zb_ne.mp h)) (fun h => kf (zb_eq.mp h))
theorem cz_lt {a b : Int} : cz a b < 0 ↔ a < b := by simp only [cz]; split <;> (try split) <;> constructor <;> intro h <;> omega
theorem cz_gt {a b : Int} : 0 < cz a b ↔ b < a := by simp only [cz]; split <;> (try split) <;> constructor <;> intro h <;> omega
theorem cz_eq {a b : Int} : cz a b = 0 ↔ a = b := by simp only [cz]; split <;> (try split) <;> constructor <;> intro h <;> omega
theorem Z_if_eqC (ok : Ok E G own cc n d) {a b : Int} {off : Int} {tgt : Nat} (hd : decode cc pc = .ok (.ifCond .eq off, 3)) (ht : (pc : Int) + off = (tgt : Int)) (kt : a = b → Xz E G I J tgt lo st) (kf : a ≠ b → Xz E G I J (pc + 3) lo st) : Xz E G I J pc lo (zi (cz a b) :: st) := Z_if_eq ok hd ht (cz_r a b) (fun h => kt (cz_eq.mp h)) (fun h => kf (fun q => h (cz_eq.mpr q)))
theorem Z_if_neC (ok : Ok E G own cc n d) {a b : Int} {off : Int} {tgt : Nat} (hd : decode cc pc = .ok (.ifCond .ne off, 3)) (ht : (pc : Int) + off = (tgt : Int)) (kt : a ≠ b → Xz E G I J tgt lo st) (kf : a = b → Xz E G I J (pc + 3) lo st) : Xz E G I J pc lo (zi (cz a b) :: st) := Z_if_ne ok hd ht (cz_r a b) (fun h => kt (fun q => h (cz_eq.mpr q))) (fun h => kf (cz_eq.mp h))
theorem Z_if_ltC (ok : Ok E G own cc n d) {a b : Int} {off : Int} {tgt : Nat} (hd : decode cc pc = .ok (.ifCond .lt off, 3)) (ht : (pc : Int) + off = (tgt : Int)) (kt : a < b → Xz E G I J tgt lo st) (kf : b ≤ a → Xz E G I J (pc + 3) lo st) : Xz E G I J pc lo (zi (cz a b) :: st) := Z_if_lt ok hd ht (cz_r a b) (fun h => kt (cz_lt.mp h)) (fun h => kf (Int.not_lt.mp (fun q => by have := cz_lt.mpr q; omega)))
theorem Z_if_geC (ok : Ok E G own cc n d) {a b : Int} {off : Int} {tgt : Nat} (hd : decode cc pc = .ok (.ifCond .ge off, 3)) (ht : (pc : Int) + off = (tgt : Int)) (kt : b ≤ a → Xz E G I J tgt lo st) (kf : a < b → Xz E G I J (pc + 3) lo st) : Xz E G I J pc lo (zi (cz a b) :: st) := Z_if_ge ok hd ht (cz_r a b) (fun h => kt (Int.not_lt.mp (fun q => by have := cz_lt.mpr q; omega))) (fun h => kf (cz_lt.mp h))
theorem Z_if_gtC (ok : Ok E G own cc n d) {a b : Int} {off : Int} {tgt : Nat} (hd : decode cc pc = .ok (.ifCond .gt off, 3)) (ht : (pc : Int) + off = (tgt : Int)) (kt : b < a → Xz E G I J tgt lo st) (kf : a ≤ b → Xz E G I J (pc + 3) lo st) : Xz E G I J pc lo (zi (cz a b) :: st) := Z_if_gt ok hd ht (cz_r a b) (fun h => kt (cz_gt.mp h)) (fun h => kf (Int.not_lt.mp (fun q => by have := cz_gt.mpr q; omega)))
theorem Z_if_leC (ok : Ok E G own cc n d) {a b : Int} {off : Int} {tgt : Nat} (hd : decode cc pc = .ok (.ifCond .le off, 3)) (ht : (pc : Int) + off = (tgt : Int)) (kt : a ≤ b → Xz E G I J tgt lo st) (kf : b < a → Xz E G I J (pc + 3) lo st) : Xz E G I J pc lo (zi (cz a b) :: st) := Z_if_le ok hd ht (cz_r a b) (fun h => kt (Int.not_lt.mp (fun q => by have := cz_gt.mpr q; omega))) (fun h => kf (cz_gt.mp h))
theorem Z_iload0 (ok : Ok E G own cc n d) {r : List (Option Value)} {x : Int} (hd : decode cc pc = .ok (.iload_n 0, 1)) (k : Xz E G I J (pc + 1) (some (zi x) :: r) (zi x :: st)) : Xz E G I J pc (some (zi x) :: r) st := V_iload0 ok hd k
theorem Z_istore0 (ok : Ok E G own cc n d) {r : List (Option Value)} {b : Option Value} {x : Int} (hn : 0 < n) (hd : decode cc pc = .ok (.istore_n 0, 1)) (k : Xz E G I J (pc + 1) (some (zi x) :: r) st) : Xz E G I J pc (b :: r) (zi x :: st) := V_istore0 ok hn hd k
theorem Z_aload0 (ok : Ok E G own cc n d) {r : List (Option Value)} {x : Nat} (hd : decode cc pc = .ok (.aload_n 0, 1)) (k : Xz E G I J (pc + 1) (some (zr G x) :: r) (zr G x :: st)) : Xz E G I J pc (some (zr G x) :: r) st := V_aload0 ok hd k
theorem Z_astore0 (ok : Ok E G own cc n d) {r : List (Option Value)} {b : Option Value} {x : Nat} (hn : 0 < n) (hd : decode cc pc = .ok (.astore_n 0, 1)) (k : Xz E G I J (pc + 1) (some (zr G x) :: r) st) : Xz E G I J pc (b :: r) (zr G x :: st) := V_astore0 ok hn hd k
theorem Z_lload0 (ok : Ok E G own cc n d) {r : List (Option Value)} {x : Int} (hd : decode cc pc = .ok (.lload_n 0, 1)) (k : Xz E G I J (pc + 1) (some (zl x) :: r) (zl x :: st)) : Xz E G I J pc (some (zl x) :: r) st := V_lload0 ok hd k
theorem Z_lstore0 (ok : Ok E G own cc n d) {r : List (Option Value)} {b b2 : Option Value} {x : Int} (hn : 0 + 1 < n) (hd : decode cc pc = .ok (.lstore_n 0, 1)) (k : Xz E G I J (pc + 1) (some (zl x) :: none :: r) st) : Xz E G I J pc (b :: b2 :: r) (zl x :: st) := by
  obtain ⟨p, l, e, R, s, m, args, below, meth, c, Q, A, nL, cl, sl⟩ := E
  intro H locs hP hS ls hl
  refine lv_lstore_n ok.1 ok.2.1 hd rfl (hl.pairs) (by have := ok.2.2.2.2.2.2.2.2.1; omega) rfl (fun ls2 h2 => k H locs hP hS ls2 (hasL.st2 (i := 0) (w := zl x) h2 rfl ?_))
  trivial
theorem Z_iinc0 (ok : Ok E G own cc n d) {r : List (Option Value)} {x z : Int} (hn : 0 < n) (hd : decode cc pc = .ok (.iinc 0 z, 3)) (k : Xz E G I J (pc + 3) (some (zi (x + z)) :: r) st) : Xz E G I J pc (some (zi x) :: r) st := V_iinc0 ok hn hd (Int32.ofInt_add x z).symm k
theorem Z_iload1 (ok : Ok E G own cc n d) {a0 : Option Value} {r : List (Option Value)} {x : Int} (hd : decode cc pc = .ok (.iload_n 1, 1)) (k : Xz E G I J (pc + 1) (a0 :: some (zi x) :: r) (zi x :: st)) : Xz E G I J pc (a0 :: some (zi x) :: r) st := V_iload1 ok hd k
theorem Z_istore1 (ok : Ok E G own cc n d) {a0 : Option Value} {r : List (Option Value)} {b : Option Value} {x : Int} (hn : 1 < n) (hd : decode cc pc = .ok (.istore_n 1, 1)) (hc : nl a0 = true) (k : Xz E G I J (pc + 1) (a0 :: some (zi x) :: r) st) : Xz E G I J pc (a0 :: b :: r) (zi x :: st) := V_istore1 ok hn hd hc k
theorem Z_aload1 (ok : Ok E G own cc n d) {a0 : Option Value} {r : List (Option Value)} {x : Nat} (hd : decode cc pc = .ok (.aload_n 1, 1)) (k : Xz E G I J (pc + 1) (a0 :: some (zr G x) :: r) (zr G x :: st)) : Xz E G I J pc (a0 :: some (zr G x) :: r) st := V_aload1 ok hd k
theorem Z_astore1 (ok : Ok E G own cc n d) {a0 : Option Value} {r : List (Option Value)} {b : Option Value} {x : Nat} (hn : 1 < n) (hd : decode cc pc = .ok (.astore_n 1, 1)) (hc : nl a0 = true) (k : Xz E G I J (pc + 1) (a0 :: some (zr G x) :: r) st) : Xz E G I J pc (a0 :: b :: r) (zr G x :: st) := V_astore1 ok hn hd hc k
theorem Z_lload1 (ok : Ok E G own cc n d) {a0 : Option Value} {r : List (Option Value)} {x : Int} (hd : decode cc pc = .ok (.lload_n 1, 1)) (k : Xz E G I J (pc + 1) (a0 :: some (zl x) :: r) (zl x :: st)) : Xz E G I J pc (a0 :: some (zl x) :: r) st := V_lload1 ok hd k
theorem Z_lstore1 (ok : Ok E G own cc n d) {a0 : Option Value} {r : List (Option Value)} {b b2 : Option Value} {x : Int} (hn : 1 + 1 < n) (hd : decode cc pc = .ok (.lstore_n 1, 1)) (hc : nl a0 = true) (k : Xz E G I J (pc + 1) (a0 :: some (zl x) :: none :: r) st) : Xz E G I J pc (a0 :: b :: b2 :: r) (zl x :: st) := by
  obtain ⟨p, l, e, R, s, m, args, below, meth, c, Q, A, nL, cl, sl⟩ := E
  intro H locs hP hS ls hl
  refine lv_lstore_n ok.1 ok.2.1 hd rfl (hl.pairs) (by have := ok.2.2.2.2.2.2.2.2.1; omega) rfl (fun ls2 h2 => k H locs hP hS ls2 (hasL.st2 (i := 1) (w := zl x) h2 rfl ?_))
  exact hc
theorem Z_iinc1 (ok : Ok E G own cc n d) {a0 : Option Value} {r : List (Option Value)} {x z : Int} (hn : 1 < n) (hd : decode cc pc = .ok (.iinc 1 z, 3)) (hc : nl a0 = true) (k : Xz E G I J (pc + 3) (a0 :: some (zi (x + z)) :: r) st) : Xz E G I J pc (a0 :: some (zi x) :: r) st := V_iinc1 ok hn hd (Int32.ofInt_add x z).symm hc k
theorem Z_iload2 (ok : Ok E G own cc n d) {a0 a1 : Option Value} {r : List (Option Value)} {x : Int} (hd : decode cc pc = .ok (.iload_n 2, 1)) (k : Xz E G I J (pc + 1) (a0 :: a1 :: some (zi x) :: r) (zi x :: st)) : Xz E G I J pc (a0 :: a1 :: some (zi x) :: r) st := V_iload2 ok hd k
theorem Z_istore2 (ok : Ok E G own cc n d) {a0 a1 : Option Value} {r : List (Option Value)} {b : Option Value} {x : Int} (hn : 2 < n) (hd : decode cc pc = .ok (.istore_n 2, 1)) (hc : nl a1 = true) (k : Xz E G I J (pc + 1) (a0 :: a1 :: some (zi x) :: r) st) : Xz E G I J pc (a0 :: a1 :: b :: r) (zi x :: st) := V_istore2 ok hn hd hc k
theorem Z_aload2 (ok : Ok E G own cc n d) {a0 a1 : Option Value} {r : List (Option Value)} {x : Nat} (hd : decode cc pc = .ok (.aload_n 2, 1)) (k : Xz E G I J (pc + 1) (a0 :: a1 :: some (zr G x) :: r) (zr G x :: st)) : Xz E G I J pc (a0 :: a1 :: some (zr G x) :: r) st := V_aload2 ok hd k
theorem Z_astore2 (ok : Ok E G own cc n d) {a0 a1 : Option Value} {r : List (Option Value)} {b : Option Value} {x : Nat} (hn : 2 < n) (hd : decode cc pc = .ok (.astore_n 2, 1)) (hc : nl a1 = true) (k : Xz E G I J (pc + 1) (a0 :: a1 :: some (zr G x) :: r) st) : Xz E G I J pc (a0 :: a1 :: b :: r) (zr G x :: st) := V_astore2 ok hn hd hc k
theorem Z_lload2 (ok : Ok E G own cc n d) {a0 a1 : Option Value} {r : List (Option Value)} {x : Int} (hd : decode cc pc = .ok (.lload_n 2, 1)) (k : Xz E G I J (pc + 1) (a0 :: a1 :: some (zl x) :: r) (zl x :: st)) : Xz E G I J pc (a0 :: a1 :: some (zl x) :: r) st := V_lload2 ok hd k
theorem Z_lstore2 (ok : Ok E G own cc n d) {a0 a1 : Option Value} {r : List (Option Value)} {b b2 : Option Value} {x : Int} (hn : 2 + 1 < n) (hd : decode cc pc = .ok (.lstore_n 2, 1)) (hc : nl a1 = true) (k : Xz E G I J (pc + 1) (a0 :: a1 :: some (zl x) :: none :: r) st) : Xz E G I J pc (a0 :: a1 :: b :: b2 :: r) (zl x :: st) := by
  obtain ⟨p, l, e, R, s, m, args, below, meth, c, Q, A, nL, cl, sl⟩ := E
  intro H locs hP hS ls hl
  refine lv_lstore_n ok.1 ok.2.1 hd rfl (hl.pairs) (by have := ok.2.2.2.2.2.2.2.2.1; omega) rfl (fun ls2 h2 => k H locs hP hS ls2 (hasL.st2 (i := 2) (w := zl x) h2 rfl ?_))
  exact hc
theorem Z_iinc2 (ok : Ok E G own cc n d) {a0 a1 : Option Value} {r : List (Option Value)} {x z : Int} (hn : 2 < n) (hd : decode cc pc = .ok (.iinc 2 z, 3)) (hc : nl a1 = true) (k : Xz E G I J (pc + 3) (a0 :: a1 :: some (zi (x + z)) :: r) st) : Xz E G I J pc (a0 :: a1 :: some (zi x) :: r) st := V_iinc2 ok hn hd (Int32.ofInt_add x z).symm hc k
theorem Z_iload3 (ok : Ok E G own cc n d) {a0 a1 a2 : Option Value} {r : List (Option Value)} {x : Int} (hd : decode cc pc = .ok (.iload_n 3, 1)) (k : Xz E G I J (pc + 1) (a0 :: a1 :: a2 :: some (zi x) :: r) (zi x :: st)) : Xz E G I J pc (a0 :: a1 :: a2 :: some (zi x) :: r) st := V_iload3 ok hd k
theorem Z_istore3 (ok : Ok E G own cc n d) {a0 a1 a2 : Option Value} {r : List (Option Value)} {b : Option Value} {x : Int} (hn : 3 < n) (hd : decode cc pc = .ok (.istore_n 3, 1)) (hc : nl a2 = true) (k : Xz E G I J (pc + 1) (a0 :: a1 :: a2 :: some (zi x) :: r) st) : Xz E G I J pc (a0 :: a1 :: a2 :: b :: r) (zi x :: st) := V_istore3 ok hn hd hc k
theorem Z_aload3 (ok : Ok E G own cc n d) {a0 a1 a2 : Option Value} {r : List (Option Value)} {x : Nat} (hd : decode cc pc = .ok (.aload_n 3, 1)) (k : Xz E G I J (pc + 1) (a0 :: a1 :: a2 :: some (zr G x) :: r) (zr G x :: st)) : Xz E G I J pc (a0 :: a1 :: a2 :: some (zr G x) :: r) st := V_aload3 ok hd k
theorem Z_astore3 (ok : Ok E G own cc n d) {a0 a1 a2 : Option Value} {r : List (Option Value)} {b : Option Value} {x : Nat} (hn : 3 < n) (hd : decode cc pc = .ok (.astore_n 3, 1)) (hc : nl a2 = true) (k : Xz E G I J (pc + 1) (a0 :: a1 :: a2 :: some (zr G x) :: r) st) : Xz E G I J pc (a0 :: a1 :: a2 :: b :: r) (zr G x :: st) := V_astore3 ok hn hd hc k
theorem Z_lload3 (ok : Ok E G own cc n d) {a0 a1 a2 : Option Value} {r : List (Option Value)} {x : Int} (hd : decode cc pc = .ok (.lload_n 3, 1)) (k : Xz E G I J (pc + 1) (a0 :: a1 :: a2 :: some (zl x) :: r) (zl x :: st)) : Xz E G I J pc (a0 :: a1 :: a2 :: some (zl x) :: r) st := V_lload3 ok hd k
theorem Z_lstore3 (ok : Ok E G own cc n d) {a0 a1 a2 : Option Value} {r : List (Option Value)} {b b2 : Option Value} {x : Int} (hn : 3 + 1 < n) (hd : decode cc pc = .ok (.lstore_n 3, 1)) (hc : nl a2 = true) (k : Xz E G I J (pc + 1) (a0 :: a1 :: a2 :: some (zl x) :: none :: r) st) : Xz E G I J pc (a0 :: a1 :: a2 :: b :: b2 :: r) (zl x :: st) := by
  obtain ⟨p, l, e, R, s, m, args, below, meth, c, Q, A, nL, cl, sl⟩ := E
  intro H locs hP hS ls hl
  refine lv_lstore_n ok.1 ok.2.1 hd rfl (hl.pairs) (by have := ok.2.2.2.2.2.2.2.2.1; omega) rfl (fun ls2 h2 => k H locs hP hS ls2 (hasL.st2 (i := 3) (w := zl x) h2 rfl ?_))
  exact hc
theorem Z_iinc3 (ok : Ok E G own cc n d) {a0 a1 a2 : Option Value} {r : List (Option Value)} {x z : Int} (hn : 3 < n) (hd : decode cc pc = .ok (.iinc 3 z, 3)) (hc : nl a2 = true) (k : Xz E G I J (pc + 3) (a0 :: a1 :: a2 :: some (zi (x + z)) :: r) st) : Xz E G I J pc (a0 :: a1 :: a2 :: some (zi x) :: r) st := V_iinc3 ok hn hd (Int32.ofInt_add x z).symm hc k
theorem Z_iload4 (ok : Ok E G own cc n d) {a0 a1 a2 a3 : Option Value} {r : List (Option Value)} {x : Int} (hd : decode cc pc = .ok (.iload 4, 2)) (k : Xz E G I J (pc + 2) (a0 :: a1 :: a2 :: a3 :: some (zi x) :: r) (zi x :: st)) : Xz E G I J pc (a0 :: a1 :: a2 :: a3 :: some (zi x) :: r) st := V_iload4 ok hd k
theorem Z_istore4 (ok : Ok E G own cc n d) {a0 a1 a2 a3 : Option Value} {r : List (Option Value)} {b : Option Value} {x : Int} (hn : 4 < n) (hd : decode cc pc = .ok (.istore 4, 2)) (hc : nl a3 = true) (k : Xz E G I J (pc + 2) (a0 :: a1 :: a2 :: a3 :: some (zi x) :: r) st) : Xz E G I J pc (a0 :: a1 :: a2 :: a3 :: b :: r) (zi x :: st) := V_istore4 ok hn hd hc k
theorem Z_aload4 (ok : Ok E G own cc n d) {a0 a1 a2 a3 : Option Value} {r : List (Option Value)} {x : Nat} (hd : decode cc pc = .ok (.aload 4, 2)) (k : Xz E G I J (pc + 2) (a0 :: a1 :: a2 :: a3 :: some (zr G x) :: r) (zr G x :: st)) : Xz E G I J pc (a0 :: a1 :: a2 :: a3 :: some (zr G x) :: r) st := V_aload4 ok hd k
theorem Z_astore4 (ok : Ok E G own cc n d) {a0 a1 a2 a3 : Option Value} {r : List (Option Value)} {b : Option Value} {x : Nat} (hn : 4 < n) (hd : decode cc pc = .ok (.astore 4, 2)) (hc : nl a3 = true) (k : Xz E G I J (pc + 2) (a0 :: a1 :: a2 :: a3 :: some (zr G x) :: r) st) : Xz E G I J pc (a0 :: a1 :: a2 :: a3 :: b :: r) (zr G x :: st) := V_astore4 ok hn hd hc k
theorem Z_lload4 (ok : Ok E G own cc n d) {a0 a1 a2 a3 : Option Value} {r : List (Option Value)} {x : Int} (hd : decode cc pc = .ok (.lload 4, 2)) (k : Xz E G I J (pc + 2) (a0 :: a1 :: a2 :: a3 :: some (zl x) :: r) (zl x :: st)) : Xz E G I J pc (a0 :: a1 :: a2 :: a3 :: some (zl x) :: r) st := V_lload4 ok hd k
theorem Z_lstore4 (ok : Ok E G own cc n d) {a0 a1 a2 a3 : Option Value} {r : List (Option Value)} {b b2 : Option Value} {x : Int} (hn : 4 + 1 < n) (hd : decode cc pc = .ok (.lstore 4, 2)) (hc : nl a3 = true) (k : Xz E G I J (pc + 2) (a0 :: a1 :: a2 :: a3 :: some (zl x) :: none :: r) st) : Xz E G I J pc (a0 :: a1 :: a2 :: a3 :: b :: b2 :: r) (zl x :: st) := by
  obtain ⟨p, l, e, R, s, m, args, below, meth, c, Q, A, nL, cl, sl⟩ := E
  intro H locs hP hS ls hl
  refine lv_lstore ok.1 ok.2.1 hd (hl.pairs) (by have := ok.2.2.2.2.2.2.2.2.1; omega) rfl (fun ls2 h2 => k H locs hP hS ls2 (hasL.st2 (i := 4) (w := zl x) h2 rfl ?_))
  exact hc
theorem Z_iinc4 (ok : Ok E G own cc n d) {a0 a1 a2 a3 : Option Value} {r : List (Option Value)} {x z : Int} (hn : 4 < n) (hd : decode cc pc = .ok (.iinc 4 z, 3)) (hc : nl a3 = true) (k : Xz E G I J (pc + 3) (a0 :: a1 :: a2 :: a3 :: some (zi (x + z)) :: r) st) : Xz E G I J pc (a0 :: a1 :: a2 :: a3 :: some (zi x) :: r) st := V_iinc4 ok hn hd (Int32.ofInt_add x z).symm hc k
theorem Z_iload5 (ok : Ok E G own cc n d) {a0 a1 a2 a3 a4 : Option Value} {r : List (Option Value)} {x : Int} (hd : decode cc pc = .ok (.iload 5, 2)) (k : Xz E G I J (pc + 2) (a0 :: a1 :: a2 :: a3 :: a4 :: some (zi x) :: r) (zi x :: st)) : Xz E G I J pc (a0 :: a1 :: a2 :: a3 :: a4 :: some (zi x) :: r) st := V_iload5 ok hd k
theorem Z_istore5 (ok : Ok E G own cc n d) {a0 a1 a2 a3 a4 : Option Value} {r : List (Option Value)} {b : Option Value} {x : Int} (hn : 5 < n) (hd : decode cc pc = .ok (.istore 5, 2)) (hc : nl a4 = true) (k : Xz E G I J (pc + 2) (a0 :: a1 :: a2 :: a3 :: a4 :: some (zi x) :: r) st) : Xz E G I J pc (a0 :: a1 :: a2 :: a3 :: a4 :: b :: r) (zi x :: st) := V_istore5 ok hn hd hc k
theorem Z_aload5 (ok : Ok E G own cc n d) {a0 a1 a2 a3 a4 : Option Value} {r : List (Option Value)} {x : Nat} (hd : decode cc pc = .ok (.aload 5, 2)) (k : Xz E G I J (pc + 2) (a0 :: a1 :: a2 :: a3 :: a4 :: some (zr G x) :: r) (zr G x :: st)) : Xz E G I J pc (a0 :: a1 :: a2 :: a3 :: a4 :: some (zr G x) :: r) st := V_aload5 ok hd k
theorem Z_astore5 (ok : Ok E G own cc n d) {a0 a1 a2 a3 a4 : Option Value} {r : List (Option Value)} {b : Option Value} {x : Nat} (hn : 5 < n) (hd : decode cc pc = .ok (.astore 5, 2)) (hc : nl a4 = true) (k : Xz E G I J (pc + 2) (a0 :: a1 :: a2 :: a3 :: a4 :: some (zr G x) :: r) st) : Xz E G I J pc (a0 :: a1 :: a2 :: a3 :: a4 :: b :: r) (zr G x :: st) := V_astore5 ok hn hd hc k
theorem Z_lload5 (ok : Ok E G own cc n d) {a0 a1 a2 a3 a4 : Option Value} {r : List (Option Value)} {x : Int} (hd : decode cc pc = .ok (.lload 5, 2)) (k : Xz E G I J (pc + 2) (a0 :: a1 :: a2 :: a3 :: a4 :: some (zl x) :: r) (zl x :: st)) : Xz E G I J pc (a0 :: a1 :: a2 :: a3 :: a4 :: some (zl x) :: r) st := V_lload5 ok hd k
theorem Z_lstore5 (ok : Ok E G own cc n d) {a0 a1 a2 a3 a4 : Option Value} {r : List (Option Value)} {b b2 : Option Value} {x : Int} (hn : 5 + 1 < n) (hd : decode cc pc = .ok (.lstore 5, 2)) (hc : nl a4 = true) (k : Xz E G I J (pc + 2) (a0 :: a1 :: a2 :: a3 :: a4 :: some (zl x) :: none :: r) st) : Xz E G I J pc (a0 :: a1 :: a2 :: a3 :: a4 :: b :: b2 :: r) (zl x :: st) := by
  obtain ⟨p, l, e, R, s, m, args, below, meth, c, Q, A, nL, cl, sl⟩ := E
  intro H locs hP hS ls hl
  refine lv_lstore ok.1 ok.2.1 hd (hl.pairs) (by have := ok.2.2.2.2.2.2.2.2.1; omega) rfl (fun ls2 h2 => k H locs hP hS ls2 (hasL.st2 (i := 5) (w := zl x) h2 rfl ?_))
  exact hc
theorem Z_iinc5 (ok : Ok E G own cc n d) {a0 a1 a2 a3 a4 : Option Value} {r : List (Option Value)} {x z : Int} (hn : 5 < n) (hd : decode cc pc = .ok (.iinc 5 z, 3)) (hc : nl a4 = true) (k : Xz E G I J (pc + 3) (a0 :: a1 :: a2 :: a3 :: a4 :: some (zi (x + z)) :: r) st) : Xz E G I J pc (a0 :: a1 :: a2 :: a3 :: a4 :: some (zi x) :: r) st := V_iinc5 ok hn hd (Int32.ofInt_add x z).symm hc k
theorem Z_iload6 (ok : Ok E G own cc n d) {a0 a1 a2 a3 a4 a5 : Option Value} {r : List (Option Value)} {x : Int} (hd : decode cc pc = .ok (.iload 6, 2)) (k : Xz E G I J (pc + 2) (a0 :: a1 :: a2 :: a3 :: a4 :: a5 :: some (zi x) :: r) (zi x :: st)) : Xz E G I J pc (a0 :: a1 :: a2 :: a3 :: a4 :: a5 :: some (zi x) :: r) st := V_iload6 ok hd k
theorem Z_istore6 (ok : Ok E G own cc n d) {a0 a1 a2 a3 a4 a5 : Option Value} {r : List (Option Value)} {b : Option Value} {x : Int} (hn : 6 < n) (hd : decode cc pc = .ok (.istore 6, 2)) (hc : nl a5 = true) (k : Xz E G I J (pc + 2) (a0 :: a1 :: a2 :: a3 :: a4 :: a5 :: some (zi x) :: r) st) : Xz E G I J pc (a0 :: a1 :: a2 :: a3 :: a4 :: a5 :: b :: r) (zi x :: st) := V_istore6 ok hn hd hc k
theorem Z_aload6 (ok : Ok E G own cc n d) {a0 a1 a2 a3 a4 a5 : Option Value} {r : List (Option Value)} {x : Nat} (hd : decode cc pc = .ok (.aload 6, 2)) (k : Xz E G I J (pc + 2) (a0 :: a1 :: a2 :: a3 :: a4 :: a5 :: some (zr G x) :: r) (zr G x :: st)) : Xz E G I J pc (a0 :: a1 :: a2 :: a3 :: a4 :: a5 :: some (zr G x) :: r) st := V_aload6 ok hd k
theorem Z_astore6 (ok : Ok E G own cc n d) {a0 a1 a2 a3 a4 a5 : Option Value} {r : List (Option Value)} {b : Option Value} {x : Nat} (hn : 6 < n) (hd : decode cc pc = .ok (.astore 6, 2)) (hc : nl a5 = true) (k : Xz E G I J (pc + 2) (a0 :: a1 :: a2 :: a3 :: a4 :: a5 :: some (zr G x) :: r) st) : Xz E G I J pc (a0 :: a1 :: a2 :: a3 :: a4 :: a5 :: b :: r) (zr G x :: st) := V_astore6 ok hn hd hc k
theorem Z_lload6 (ok : Ok E G own cc n d) {a0 a1 a2 a3 a4 a5 : Option Value} {r : List (Option Value)} {x : Int} (hd : decode cc pc = .ok (.lload 6, 2)) (k : Xz E G I J (pc + 2) (a0 :: a1 :: a2 :: a3 :: a4 :: a5 :: some (zl x) :: r) (zl x :: st)) : Xz E G I J pc (a0 :: a1 :: a2 :: a3 :: a4 :: a5 :: some (zl x) :: r) st := V_lload6 ok hd k
theorem Z_lstore6 (ok : Ok E G own cc n d) {a0 a1 a2 a3 a4 a5 : Option Value} {r : List (Option Value)} {b b2 : Option Value} {x : Int} (hn : 6 + 1 < n) (hd : decode cc pc = .ok (.lstore 6, 2)) (hc : nl a5 = true) (k : Xz E G I J (pc + 2) (a0 :: a1 :: a2 :: a3 :: a4 :: a5 :: some (zl x) :: none :: r) st) : Xz E G I J pc (a0 :: a1 :: a2 :: a3 :: a4 :: a5 :: b :: b2 :: r) (zl x :: st) := by
  obtain ⟨p, l, e, R, s, m, args, below, meth, c, Q, A, nL, cl, sl⟩ := E
  intro H locs hP hS ls hl
  refine lv_lstore ok.1 ok.2.1 hd (hl.pairs) (by have := ok.2.2.2.2.2.2.2.2.1; omega) rfl (fun ls2 h2 => k H locs hP hS ls2 (hasL.st2 (i := 6) (w := zl x) h2 rfl ?_))
  exact hc
theorem Z_iinc6 (ok : Ok E G own cc n d) {a0 a1 a2 a3 a4 a5 : Option Value} {r : List (Option Value)} {x z : Int} (hn : 6 < n) (hd : decode cc pc = .ok (.iinc 6 z, 3)) (hc : nl a5 = true) (k : Xz E G I J (pc + 3) (a0 :: a1 :: a2 :: a3 :: a4 :: a5 :: some (zi (x + z)) :: r) st) : Xz E G I J pc (a0 :: a1 :: a2 :: a3 :: a4 :: a5 :: some (zi x) :: r) st := V_iinc6 ok hn hd (Int32.ofInt_add x z).symm hc k
theorem Z_iload7 (ok : Ok E G own cc n d) {a0 a1 a2 a3 a4 a5 a6 : Option Value} {r : List (Option Value)} {x : Int} (hd : decode cc pc = .ok (.iload 7, 2)) (k : Xz E G I J (pc + 2) (a0 :: a1 :: a2 :: a3 :: a4 :: a5 :: a6 :: some (zi x) :: r) (zi x :: st)) : Xz E G I J pc (a0 :: a1 :: a2 :: a3 :: a4 :: a5 :: a6 :: some (zi x) :: r) st := V_iload7 ok hd k
theorem Z_istore7 (ok : Ok E G own cc n d) {a0 a1 a2 a3 a4 a5 a6 : Option Value} {r : List (Option Value)} {b : Option Value} {x : Int} (hn : 7 < n) (hd : decode cc pc = .ok (.istore 7, 2)) (hc : nl a6 = true) (k : Xz E G I J (pc + 2) (a0 :: a1 :: a2 :: a3 :: a4 :: a5 :: a6 :: some (zi x) :: r) st) : Xz E G I J pc (a0 :: a1 :: a2 :: a3 :: a4 :: a5 :: a6 :: b :: r) (zi x :: st) := V_istore7 ok hn hd hc k
theorem Z_aload7 (ok : Ok E G own cc n d) {a0 a1 a2 a3 a4 a5 a6 : Option Value} {r : List (Option Value)} {x : Nat} (hd : decode cc pc = .ok (.aload 7, 2)) (k : Xz E G I J (pc + 2) (a0 :: a1 :: a2 :: a3 :: a4 :: a5 :: a6 :: some (zr G x) :: r) (zr G x :: st)) : Xz E G I J pc (a0 :: a1 :: a2 :: a3 :: a4 :: a5 :: a6 :: some (zr G x) :: r) st := V_aload7 ok hd k
theorem Z_astore7 (ok : Ok E G own cc n d) {a0 a1 a2 a3 a4 a5 a6 : Option Value} {r : List (Option Value)} {b : Option Value} {x : Nat} (hn : 7 < n) (hd : decode cc pc = .ok (.astore 7, 2)) (hc : nl a6 = true) (k : Xz E G I J (pc + 2) (a0 :: a1 :: a2 :: a3 :: a4 :: a5 :: a6 :: some (zr G x) :: r) st) : Xz E G I J pc (a0 :: a1 :: a2 :: a3 :: a4 :: a5 :: a6 :: b :: r) (zr G x :: st) := V_astore7 ok hn hd hc k
theorem Z_lload7 (ok : Ok E G own cc n d) {a0 a1 a2 a3 a4 a5 a6 : Option Value} {r : List (Option Value)} {x : Int} (hd : decode cc pc = .ok (.lload 7, 2)) (k : Xz E G I J (pc + 2) (a0 :: a1 :: a2 :: a3 :: a4 :: a5 :: a6 :: some (zl x) :: r) (zl x :: st)) : Xz E G I J pc (a0 :: a1 :: a2 :: a3 :: a4 :: a5 :: a6 :: some (zl x) :: r) st := V_lload7 ok hd k
theorem Z_lstore7 (ok : Ok E G own cc n d) {a0 a1 a2 a3 a4 a5 a6 : Option Value} {r : List (Option Value)} {b b2 : Option Value} {x : Int} (hn : 7 + 1 < n) (hd : decode cc pc = .ok (.lstore 7, 2)) (hc : nl a6 = true) (k : Xz E G I J (pc + 2) (a0 :: a1 :: a2 :: a3 :: a4 :: a5 :: a6 :: some (zl x) :: none :: r) st) : Xz E G I J pc (a0 :: a1 :: a2 :: a3 :: a4 :: a5 :: a6 :: b :: b2 :: r) (zl x :: st) := by
  obtain ⟨p, l, e, R, s, m, args, below, meth, c, Q, A, nL, cl, sl⟩ := E
  intro H locs hP hS ls hl
  refine lv_lstore ok.1 ok.2.1 hd (hl.pairs) (by have := ok.2.2.2.2.2.2.2.2.1; omega) rfl (fun ls2 h2 => k H locs hP hS ls2 (hasL.st2 (i := 7) (w := zl x) h2 rfl ?_))
  exact hc
theorem Z_iinc7 (ok : Ok E G own cc n d) {a0 a1 a2 a3 a4 a5 a6 : Option Value} {r : List (Option Value)} {x z : Int} (hn : 7 < n) (hd : decode cc pc = .ok (.iinc 7 z, 3)) (hc : nl a6 = true) (k : Xz E G I J (pc + 3) (a0 :: a1 :: a2 :: a3 :: a4 :: a5 :: a6 :: some (zi (x + z)) :: r) st) : Xz E G I J pc (a0 :: a1 :: a2 :: a3 :: a4 :: a5 :: a6 :: some (zi x) :: r) st := V_iinc7 ok hn hd (Int32.ofInt_add x z).symm hc k
theorem Z_iload8 (ok : Ok E G own cc n d) {a0 a1 a2 a3 a4 a5 a6 a7 : Option Value} {r : List (Option Value)} {x : Int} (hd : decode cc pc = .ok (.iload 8, 2)) (k : Xz E G I J (pc + 2) (a0 :: a1 :: a2 :: a3 :: a4 :: a5 :: a6 :: a7 :: some (zi x) :: r) (zi x :: st)) : Xz E G I J pc (a0 :: a1 :: a2 :: a3 :: a4 :: a5 :: a6 :: a7 :: some (zi x) :: r) st := V_iload8 ok hd k
theorem Z_istore8 (ok : Ok E G own cc n d) {a0 a1 a2 a3 a4 a5 a6 a7 : Option Value} {r : List (Option Value)} {b : Option Value} {x : Int} (hn : 8 < n) (hd : decode cc pc = .ok (.istore 8, 2)) (hc : nl a7 = true) (k : Xz E G I J (pc + 2) (a0 :: a1 :: a2 :: a3 :: a4 :: a5 :: a6 :: a7 :: some (zi x) :: r) st) : Xz E G I J pc (a0 :: a1 :: a2 :: a3 :: a4 :: a5 :: a6 :: a7 :: b :: r) (zi x :: st) := V_istore8 ok hn hd hc k
theorem Z_aload8 (ok : Ok E G own cc n d) {a0 a1 a2 a3 a4 a5 a6 a7 : Option Value} {r : List (Option Value)} {x : Nat} (hd : decode cc pc = .ok (.aload 8, 2)) (k : Xz E G I J (pc + 2) (a0 :: a1 :: a2 :: a3 :: a4 :: a5 :: a6 :: a7 :: some (zr G x) :: r) (zr G x :: st)) : Xz E G I J pc (a0 :: a1 :: a2 :: a3 :: a4 :: a5 :: a6 :: a7 :: some (zr G x) :: r) st := V_aload8 ok hd k
theorem Z_astore8 (ok : Ok E G own cc n d) {a0 a1 a2 a3 a4 a5 a6 a7 : Option Value} {r : List (Option Value)} {b : Option Value} {x : Nat} (hn : 8 < n) (hd : decode cc pc = .ok (.astore 8, 2)) (hc : nl a7 = true) (k : Xz E G I J (pc + 2) (a0 :: a1 :: a2 :: a3 :: a4 :: a5 :: a6 :: a7 :: some (zr G x) :: r) st) : Xz E G I J pc (a0 :: a1 :: a2 :: a3 :: a4 :: a5 :: a6 :: a7 :: b :: r) (zr G x :: st) := V_astore8 ok hn hd hc k
theorem Z_lload8 (ok : Ok E G own cc n d) {a0 a1 a2 a3 a4 a5 a6 a7 : Option Value} {r : List (Option Value)} {x : Int} (hd : decode cc pc = .ok (.lload 8, 2)) (k : Xz E G I J (pc + 2) (a0 :: a1 :: a2 :: a3 :: a4 :: a5 :: a6 :: a7 :: some (zl x) :: r) (zl x :: st)) : Xz E G I J pc (a0 :: a1 :: a2 :: a3 :: a4 :: a5 :: a6 :: a7 :: some (zl x) :: r) st := V_lload8 ok hd k
theorem Z_lstore8 (ok : Ok E G own cc n d) {a0 a1 a2 a3 a4 a5 a6 a7 : Option Value} {r : List (Option Value)} {b b2 : Option Value} {x : Int} (hn : 8 + 1 < n) (hd : decode cc pc = .ok (.lstore 8, 2)) (hc : nl a7 = true) (k : Xz E G I J (pc + 2) (a0 :: a1 :: a2 :: a3 :: a4 :: a5 :: a6 :: a7 :: some (zl x) :: none :: r) st) : Xz E G I J pc (a0 :: a1 :: a2 :: a3 :: a4 :: a5 :: a6 :: a7 :: b :: b2 :: r) (zl x :: st) := by
  obtain ⟨p, l, e, R, s, m, args, below, meth, c, Q, A, nL, cl, sl⟩ := E
  intro H locs hP hS ls hl
  refine lv_lstore ok.1 ok.2.1 hd (hl.pairs) (by have := ok.2.2.2.2.2.2.2.2.1; omega) rfl (fun ls2 h2 => k H locs hP hS ls2 (hasL.st2 (i := 8) (w := zl x) h2 rfl ?_))
  exact hc
theorem Z_iinc8 (ok : Ok E G own cc n d) {a0 a1 a2 a3 a4 a5 a6 a7 : Option Value} {r : List (Option Value)} {x z : Int} (hn : 8 < n) (hd : decode cc pc = .ok (.iinc 8 z, 3)) (hc : nl a7 = true) (k : Xz E G I J (pc + 3) (a0 :: a1 :: a2 :: a3 :: a4 :: a5 :: a6 :: a7 :: some (zi (x + z)) :: r) st) : Xz E G I J pc (a0 :: a1 :: a2 :: a3 :: a4 :: a5 :: a6 :: a7 :: some (zi x) :: r) st := V_iinc8 ok hn hd (Int32.ofInt_add x z).symm hc k
theorem Z_iload9 (ok : Ok E G own cc n d) {a0 a1 a2 a3 a4 a5 a6 a7 a8 : Option Value} {r : List (Option Value)} {x : Int} (hd : decode cc pc = .ok (.iload 9, 2)) (k : Xz E G I J (pc + 2) (a0 :: a1 :: a2 :: a3 :: a4 :: a5 :: a6 :: a7 :: a8 :: some (zi x) :: r) (zi x :: st)) : Xz E G I J pc (a0 :: a1 :: a2 :: a3 :: a4 :: a5 :: a6 :: a7 :: a8 :: some (zi x) :: r) st := V_iload9 ok hd k
theorem Z_istore9 (ok : Ok E G own cc n d) {a0 a1 a2 a3 a4 a5 a6 a7 a8 : Option Value} {r : List (Option Value)} {b : Option Value} {x : Int} (hn : 9 < n) (hd : decode cc pc = .ok (.istore 9, 2)) (hc : nl a8 = true) (k : Xz E G I J (pc + 2) (a0 :: a1 :: a2 :: a3 :: a4 :: a5 :: a6 :: a7 :: a8 :: some (zi x) :: r) st) : Xz E G I J pc (a0 :: a1 :: a2 :: a3 :: a4 :: a5 :: a6 :: a7 :: a8 :: b :: r) (zi x :: st) := V_istore9 ok hn hd hc k
theorem Z_aload9 (ok : Ok E G own cc n d) {a0 a1 a2 a3 a4 a5 a6 a7 a8 : Option Value} {r : List (Option Value)} {x : Nat} (hd : decode cc pc = .ok (.aload 9, 2)) (k : Xz E G I J (pc + 2) (a0 :: a1 :: a2 :: a3 :: a4 :: a5 :: a6 :: a7 :: a8 :: some (zr G x) :: r) (zr G x :: st)) : Xz E G I J pc (a0 :: a1 :: a2 :: a3 :: a4 :: a5 :: a6 :: a7 :: a8 :: some (zr G x) :: r) st := V_aload9 ok hd k
theorem Z_astore9 (ok : Ok E G own cc n d) {a0 a1 a2 a3 a4 a5 a6 a7 a8 : Option Value} {r : List (Option Value)} {b : Option Value} {x : Nat} (hn : 9 < n) (hd : decode cc pc = .ok (.astore 9, 2)) (hc : nl a8 = true) (k : Xz E G I J (pc + 2) (a0 :: a1 :: a2 :: a3 :: a4 :: a5 :: a6 :: a7 :: a8 :: some (zr G x) :: r) st) : Xz E G I J pc (a0 :: a1 :: a2 :: a3 :: a4 :: a5 :: a6 :: a7 :: a8 :: b :: r) (zr G x :: st) := V_astore9 ok hn hd hc k
theorem Z_lload9 (ok : Ok E G own cc n d) {a0 a1 a2 a3 a4 a5 a6 a7 a8 : Option Value} {r : List (Option Value)} {x : Int} (hd : decode cc pc = .ok (.lload 9, 2)) (k : Xz E G I J (pc + 2) (a0 :: a1 :: a2 :: a3 :: a4 :: a5 :: a6 :: a7 :: a8 :: some (zl x) :: r) (zl x :: st)) : Xz E G I J pc (a0 :: a1 :: a2 :: a3 :: a4 :: a5 :: a6 :: a7 :: a8 :: some (zl x) :: r) st := V_lload9 ok hd k
theorem Z_lstore9 (ok : Ok E G own cc n d) {a0 a1 a2 a3 a4 a5 a6 a7 a8 : Option Value} {r : List (Option Value)} {b b2 : Option Value} {x : Int} (hn : 9 + 1 < n) (hd : decode cc pc = .ok (.lstore 9, 2)) (hc : nl a8 = true) (k : Xz E G I J (pc + 2) (a0 :: a1 :: a2 :: a3 :: a4 :: a5 :: a6 :: a7 :: a8 :: some (zl x) :: none :: r) st) : Xz E G I J pc (a0 :: a1 :: a2 :: a3 :: a4 :: a5 :: a6 :: a7 :: a8 :: b :: b2 :: r) (zl x :: st) := by
  obtain ⟨p, l, e, R, s, m, args, below, meth, c, Q, A, nL, cl, sl⟩ := E
  intro H locs hP hS ls hl
  refine lv_lstore ok.1 ok.2.1 hd (hl.pairs) (by have := ok.2.2.2.2.2.2.2.2.1; omega) rfl (fun ls2 h2 => k H locs hP hS ls2 (hasL.st2 (i := 9) (w := zl x) h2 rfl ?_))
  exact hc
theorem Z_iinc9 (ok : Ok E G own cc n d) {a0 a1 a2 a3 a4 a5 a6 a7 a8 : Option Value} {r : List (Option Value)} {x z : Int} (hn : 9 < n) (hd : decode cc pc = .ok (.iinc 9 z, 3)) (hc : nl a8 = true) (k : Xz E G I J (pc + 3) (a0 :: a1 :: a2 :: a3 :: a4 :: a5 :: a6 :: a7 :: a8 :: some (zi (x + z)) :: r) st) : Xz E G I J pc (a0 :: a1 :: a2 :: a3 :: a4 :: a5 :: a6 :: a7 :: a8 :: some (zi x) :: r) st := V_iinc9 ok hn hd (Int32.ofInt_add x z).symm hc k
theorem Z_getI (ok : Ok E G own cc n d) {x k ci j : Nat} {ref C : String} {T : u_T} {N : Nat} (hd : decode cc pc = .ok (.getfield x, 3)) (hl : Cond.fieldLink own x ref (T j).2.1 (T j).2.2.1 ∈ mS) (hk : kd k = ci) (hcl : vwCl[ci]? = some (C, T, N)) (hin : ∀ w ∈ u_ws C T N, w ∈ mS) (hj : (ft ci)[j]? = some true) (hs : (T j).1 = ref) (hN : j < N) (hci : ci < 13) (kk : Xz E G I J (pc + 3) lo (zi (I k (j : Int)) :: st)) : Xz E G I J pc lo (zr G k :: st) := V_getI ok hd hk hcl hin hj hl hs hN (kd_lt hk (by omega)) hci kk
theorem Z_getR (ok : Ok E G own cc n d) {x k ci j t : Nat} {ref C : String} {T : u_T} {N : Nat} (hd : decode cc pc = .ok (.getfield x, 3)) (hl : Cond.fieldLink own x ref (T j).2.1 (T j).2.2.1 ∈ mS) (hk : kd k = ci) (ht : rf k j = t) (hcl : vwCl[ci]? = some (C, T, N)) (hin : ∀ w ∈ u_ws C T N, w ∈ mS) (hj : (ft ci)[j]? = some false) (hs : (T j).1 = ref) (hN : j < N) (hci : ci < 13) (kk : Xz E G I J (pc + 3) lo (zr G t :: st)) : Xz E G I J pc lo (zr G k :: st) := V_getR ok hd hk hcl hin hj hl hs hN (kd_lt hk (by omega)) hci ht kk
theorem Z_putI (ok : Ok E G own cc n d) {x k ci j : Nat} {v : Int} {ref C : String} {T : u_T} {N : Nat} {ty0 : Nat → FieldType} (hd : decode cc pc = .ok (.putfield x, 3)) (hl : Cond.fieldLink own x ref (T j).2.1 (T j).2.2.1 ∈ mS) (hk : kd k = ci) (hcl : vwCl[ci]? = some (C, T, N)) (hin : ∀ w ∈ u_ws C T N, w ∈ mS) (hty : ∀ k, k < N → parseFieldDescriptor (T k).2.2.1 = some (ty0 k)) (hnm : ∀ a, a < N → ∀ b, b < N → a ≠ b → (T a).2.1 ≠ (T b).2.1) (hj : (ft ci)[j]? = some true) (hs : (T j).1 = ref) (hN : j < N) (hci : ci < 13) (hfin : (T j).2.2.2 = false) (hp : ty0 j = .int) (kk : Xz E G (sz I k (uz (I k) (j : Int) v)) J (pc + 3) lo st) : Xz E G I J pc lo (zi v :: zr G k :: st) := V_putI ok hd hk hcl hin hty hnm hj hl hs hN (kd_lt hk (by omega)) hci hfin hp rfl rfl (by rw [← zI_sz]; exact kk)
theorem nar_b {v : Int} (h : v = 0 ∨ v = 1) : narrow .boolean (.int (Int32.ofInt v)) = .int (Int32.ofInt v) := by rcases h with rfl | rfl <;> decide
theorem fit_b {v : Int} (h : v = 0 ∨ v = 1) : fits .boolean (.int (Int32.ofInt v)) = true := by rcases h with rfl | rfl <;> decide
theorem Z_putB (ok : Ok E G own cc n d) {x k ci j : Nat} {v : Int} {ref C : String} {T : u_T} {N : Nat} {ty0 : Nat → FieldType} (hd : decode cc pc = .ok (.putfield x, 3)) (hl : Cond.fieldLink own x ref (T j).2.1 (T j).2.2.1 ∈ mS) (hk : kd k = ci) (hv : v = 0 ∨ v = 1) (hcl : vwCl[ci]? = some (C, T, N)) (hin : ∀ w ∈ u_ws C T N, w ∈ mS) (hty : ∀ k, k < N → parseFieldDescriptor (T k).2.2.1 = some (ty0 k)) (hnm : ∀ a, a < N → ∀ b, b < N → a ≠ b → (T a).2.1 ≠ (T b).2.1) (hj : (ft ci)[j]? = some true) (hs : (T j).1 = ref) (hN : j < N) (hci : ci < 13) (hfin : (T j).2.2.2 = false) (hp : ty0 j = .boolean) (kk : Xz E G (sz I k (uz (I k) (j : Int) v)) J (pc + 3) lo st) : Xz E G I J pc lo (zi v :: zr G k :: st) := V_putI ok hd hk hcl hin hty hnm hj hl hs hN (kd_lt hk (by omega)) hci hfin hp (nar_b hv) (fit_b hv) (by rw [← zI_sz]; exact kk)

theorem Z_iald (ok : Ok E G own cc n d) {i : Int} {k L : Nat} (hd : decode cc pc = .ok (.iaload, 1)) (hk : kd k = 13) (hL : ln k = L) (h : 0 ≤ i ∧ i < (L : Int)) (kk : Xz E G I J (pc + 1) lo (zi (I k i) :: st)) : Xz E G I J pc lo (zi i :: zr G k :: st) := by
  refine V_iald ok hd hk (kd_lt hk (by decide)) (nIz h.1) (i := i.toNat) (by omega) (ln_small k) ?_
  have e : zI I k i.toNat = Int32.ofInt (I k i) := by simp only [zI]; rw [Int.toNat_of_nonneg h.1]
  rw [e]; exact kk
theorem Z_zald (ok : Ok E G own cc n d) {i : Int} {k L : Nat} (hd : decode cc pc = .ok (.baload, 1)) (hk : kd k = 15) (hL : ln k = L) (h : 0 ≤ i ∧ i < (L : Int)) (kk : Xz E G I J (pc + 1) lo (zi (I k i) :: st)) : Xz E G I J pc lo (zi i :: zr G k :: st) := by
  refine V_zald ok hd hk (kd_lt hk (by decide)) (nIz h.1) (i := i.toNat) (by omega) (ln_small k) ?_
  have e : zI I k i.toNat = Int32.ofInt (I k i) := by simp only [zI]; rw [Int.toNat_of_nonneg h.1]
  rw [e]; exact kk
theorem Z_lald (ok : Ok E G own cc n d) {i : Int} {k L : Nat} (hd : decode cc pc = .ok (.laload, 1)) (hk : kd k = 14) (hL : ln k = L) (h : 0 ≤ i ∧ i < (L : Int)) (kk : Xz E G I J (pc + 1) lo (zl (J k i) :: st)) : Xz E G I J pc lo (zi i :: zr G k :: st) := by
  refine V_lald ok hd hk (kd_lt hk (by decide)) (nIz h.1) (i := i.toNat) (by omega) (ln_small k) ?_
  have e : zJ J k i.toNat = Int64.ofInt (J k i) := by simp only [zJ]; rw [Int.toNat_of_nonneg h.1]
  rw [e]; exact kk
theorem Z_aald (ok : Ok E G own cc n d) {i : Int} {k t r L : Nat} {C : String} (hd : decode cc pc = .ok (.aaload, 1)) (hk : kd k = 13 + t) (ht : 3 ≤ t) (hC : (tysG G)[t]? = some (G.2.1 t, .object C)) (hL : ln k = L) (h : 0 ≤ i ∧ i < (L : Int)) (hr : rf k i.toNat = r) (kk : Xz E G I J (pc + 1) lo (zr G r :: st)) : Xz E G I J pc lo (zi i :: zr G k :: st) := by
  have ht6 : t < 6 := by
    have := (List.getElem?_eq_some_iff.mp hC).1
    simpa [tysG] using this
  exact V_aald ok hd hk ht hC (kd_lt hk (by omega)) (nIz h.1) (i := i.toNat) (by omega) (ln_small k) hr kk
theorem Z_alen (ok : Ok E G own cc n d) {k t L : Nat} {ty : FieldType} (hd : decode cc pc = .ok (.arraylength, 1)) (hk : kd k = 13 + t) (ht : (tysG G)[t]? = some (G.2.1 t, ty)) (hL : ln k = L) (kk : Xz E G I J (pc + 1) lo (zi (L : Int) :: st)) : Xz E G I J pc lo (zr G k :: st) := by
  have ht6 : t < 6 := by
    have := (List.getElem?_eq_some_iff.mp ht).1
    simpa [tysG] using this
  exact V_alen ok hd hk ht (kd_lt hk (by omega)) (by rw [hL]; exact Int32.ofInt_eq_ofNat.symm) kk
theorem Z_iast (ok : Ok E G own cc n d) {i v : Int} {k L : Nat} (hd : decode cc pc = .ok (.iastore, 1)) (hk : kd k = 13) (hL : ln k = L) (h : 0 ≤ i ∧ i < (L : Int)) (kk : Xz E G (sz I k (uz (I k) i v)) J (pc + 1) lo st) : Xz E G I J pc lo (zi v :: zi i :: zr G k :: st) := by
  refine V_iast ok hd hk (kd_lt hk (by decide)) (nIz h.1) (i := i.toNat) (by omega) (ln_small k) ?_
  rw [← zI_sz, Int.toNat_of_nonneg h.1]; exact kk
theorem Z_zast (ok : Ok E G own cc n d) {i v : Int} {k L : Nat} (hd : decode cc pc = .ok (.bastore, 1)) (hv : v = 0 ∨ v = 1) (hk : kd k = 15) (hL : ln k = L) (h : 0 ≤ i ∧ i < (L : Int)) (kk : Xz E G (sz I k (uz (I k) i v)) J (pc + 1) lo st) : Xz E G I J pc lo (zi v :: zi i :: zr G k :: st) := by
  refine V_zast ok hd hk (kd_lt hk (by decide)) (nIz h.1) (i := i.toNat) (by omega) (ln_small k) (by rcases hv with rfl | rfl <;> decide) ?_
  rw [← zI_sz, Int.toNat_of_nonneg h.1]; exact kk
theorem Z_last (ok : Ok E G own cc n d) {i v : Int} {k L : Nat} (hd : decode cc pc = .ok (.lastore, 1)) (hk : kd k = 14) (hL : ln k = L) (h : 0 ≤ i ∧ i < (L : Int)) (kk : Xz E G I (sz J k (uz (J k) i v)) (pc + 1) lo st) : Xz E G I J pc lo (zl v :: zi i :: zr G k :: st) := by
  refine V_last ok hd hk (kd_lt hk (by decide)) (nIz h.1) (i := i.toNat) (by omega) (ln_small k) ?_
  rw [← zJ_sz, Int.toNat_of_nonneg h.1]; exact kk
/-- System.arraycopy of a whole array -/
theorem Z_copy (ok : Ok E G own cc n d) {x a b N : Nat} {z : Int} (hd : decode cc pc = .ok (.invokestatic x, 3)) (hw : Cond.methodLink own x arraycopyName ∈ mS) (h1 : Cond.native arraycopyName ∈ mS) (h2 : Cond.static arraycopyName ∈ mS) (h3 : Cond.initialized "java/lang/System" ∈ mS) (ha : kd a = 13) (hb : kd b = 13) (hla : ln a = N) (hlb : ln b = N) (hz : z = (N : Int)) (hd1 : 1 ≤ d) (hst : (st.map fun v => v.category).sum ≤ 8) (kk : Xz E G (sz I b (I a)) J (pc + 3) lo st) : Xz E G I J pc lo (zi z :: zi 0 :: zr G b :: zi 0 :: zr G a :: st) := by
  have hN := ln_small a
  subst hz
  have := V_copy (N := N) ok hd hw h1 h2 h3 ha hb (kd_lt ha (by decide)) (kd_lt hb (by decide)) (by omega) (by omega) (by omega) hd1 hst (I := zI I) (J := zJ J) (lo := lo) ?_
  · show V E G (zI I) (zJ J) pc lo (.int (Int32.ofInt (N : Int)) :: _)
    rw [Int32.ofInt_eq_ofNat]
    exact this
  · refine V_ext (fun k j hj => ?_) (fun _ _ _ => rfl) kk
    by_cases hkb : k = b
    · subst hkb
      have hj := hj (by omega)
      simp only [sr_eq, zI, sz_eq]
      rw [if_pos (by omega)]
    · simp only [sr_ne _ _ hkb, zI, sz_ne _ _ hkb]
/-- ends -/
theorem Z_iret (ok : Ok E G own cc n d) {post : Option Value → Mz → Mz → Prop} {v : Int} (or : Oz E G (some .int) post) (hd : decode cc pc = .ok (.ireturn, 1)) (hp : post (some (zi v)) I J) : Xz E G I J pc lo [zi v] := V_iret ok or hd rfl ⟨I, J, rfl, rfl, hp⟩
theorem Z_bret (ok : Ok E G own cc n d) {post : Option Value → Mz → Mz → Prop} {v : Int} (or : Oz E G (some .boolean) post) (hd : decode cc pc = .ok (.ireturn, 1)) (hv : v = 0 ∨ v = 1) (hp : post (some (zi v)) I J) : Xz E G I J pc lo [zi v] := V_iret ok or hd (nar_b hv) ⟨I, J, rfl, rfl, hp⟩
theorem Z_lret (ok : Ok E G own cc n d) {post : Option Value → Mz → Mz → Prop} {v : Int} (or : Oz E G (some .long) post) (hd : decode cc pc = .ok (.lreturn, 1)) (hp : post (some (zl v)) I J) : Xz E G I J pc lo [zl v] := V_lret ok or hd ⟨I, J, rfl, rfl, hp⟩
theorem Z_vret (ok : Ok E G own cc n d) {post : Option Value → Mz → Mz → Prop} (or : Oz E G none post) (hd : decode cc pc = .ok (.return_, 1)) (hp : post none I J) : Xz E G I J pc lo [] := V_vret ok or hd ⟨I, J, rfl, rfl, hp⟩

theorem Z_callVV (ok : Ok E G own cc n d) {x k ci mL na d' : Nat} {y : MethodName} {b : ByteArray} {ret : Option FieldType} {T : u_T} {N : Nat} {As : List Value} {st0 : List Value} {P : Mz → Mz → Prop} (hd : decode cc pc = .ok (.invokevirtual x, 3)) (cw : CwV own x y b mL ret na) (hcl : vwCl[ci]? = some (y.cls, T, N)) (hk : kd k = ci) (hci : ci < 13) (hC : Cz E.2.1 y b mL ret d' G (zr G k :: As) I J (fun v I' J' => v = none ∧ P I' J')) (hst : st0 = As.reverse ++ zr G k :: st) (hna : As.length = na) (hdd : d' < d) (hsm : (st.map fun v => v.category).sum ≤ 8) (kk : ∀ (I' J' : Mz), P I' J' → Xz E G I' J' (pc + 3) lo st) : Xz E G I J pc lo st0 := V_callV ok hd cw hcl hk (kd_lt hk (by omega)) hci hC hst hna hdd hsm (fun v I' J' hp => by
  obtain ⟨Iz, Jz, rfl, rfl, rfl, hp⟩ := hp
  exact kk Iz Jz hp)
theorem Z_callVVd (ok : Ok E G own cc n d) {x k ci mL na d' : Nat} {y : MethodName} {b : ByteArray} {ret : Option FieldType} {T : u_T} {N : Nat} {As : List Value} {st0 : List Value} {I1 J1 : Mz} (hd : decode cc pc = .ok (.invokevirtual x, 3)) (cw : CwV own x y b mL ret na) (hcl : vwCl[ci]? = some (y.cls, T, N)) (hk : kd k = ci) (hci : ci < 13) (hC : Cz E.2.1 y b mL ret d' G (zr G k :: As) I J (pR none I1 J1)) (hst : st0 = As.reverse ++ zr G k :: st) (hna : As.length = na) (hdd : d' < d) (hsm : (st.map fun v => v.category).sum ≤ 8) (kk : Xz E G I1 J1 (pc + 3) lo st) : Xz E G I J pc lo st0 := V_callV ok hd cw hcl hk (kd_lt hk (by omega)) hci hC hst hna hdd hsm (fun v I' J' hp => by
  obtain ⟨Iz, Jz, rfl, rfl, rfl, rfl, rfl⟩ := hp
  exact kk)
theorem Z_callVI (ok : Ok E G own cc n d) {x k ci mL na d' : Nat} {y : MethodName} {b : ByteArray} {ret : Option FieldType} {T : u_T} {N : Nat} {As : List Value} {st0 : List Value} {P : Int → Mz → Mz → Prop} (hd : decode cc pc = .ok (.invokevirtual x, 3)) (cw : CwV own x y b mL ret na) (hcl : vwCl[ci]? = some (y.cls, T, N)) (hk : kd k = ci) (hci : ci < 13) (hC : Cz E.2.1 y b mL ret d' G (zr G k :: As) I J (fun v I' J' => ∃ r, v = (some (zi r)) ∧ P r I' J')) (hst : st0 = As.reverse ++ zr G k :: st) (hna : As.length = na) (hdd : d' < d) (hsm : (st.map fun v => v.category).sum ≤ 8) (kk : ∀ (r : Int) (I' J' : Mz), P r I' J' → Xz E G I' J' (pc + 3) lo (zi r :: st)) : Xz E G I J pc lo st0 := V_callV ok hd cw hcl hk (kd_lt hk (by omega)) hci hC hst hna hdd hsm (fun v I' J' hp => by
  obtain ⟨Iz, Jz, rfl, rfl, r, rfl, hp⟩ := hp
  exact kk r Iz Jz hp)
theorem Z_callVId (ok : Ok E G own cc n d) {x k ci mL na d' : Nat} {y : MethodName} {b : ByteArray} {ret : Option FieldType} {T : u_T} {N : Nat} {As : List Value} {st0 : List Value} {r : Int} {I1 J1 : Mz} (hd : decode cc pc = .ok (.invokevirtual x, 3)) (cw : CwV own x y b mL ret na) (hcl : vwCl[ci]? = some (y.cls, T, N)) (hk : kd k = ci) (hci : ci < 13) (hC : Cz E.2.1 y b mL ret d' G (zr G k :: As) I J (pR (some (zi r)) I1 J1)) (hst : st0 = As.reverse ++ zr G k :: st) (hna : As.length = na) (hdd : d' < d) (hsm : (st.map fun v => v.category).sum ≤ 8) (kk : Xz E G I1 J1 (pc + 3) lo (zi r :: st)) : Xz E G I J pc lo st0 := V_callV ok hd cw hcl hk (kd_lt hk (by omega)) hci hC hst hna hdd hsm (fun v I' J' hp => by
  obtain ⟨Iz, Jz, rfl, rfl, rfl, rfl, rfl⟩ := hp
  exact kk)
theorem Z_callVL (ok : Ok E G own cc n d) {x k ci mL na d' : Nat} {y : MethodName} {b : ByteArray} {ret : Option FieldType} {T : u_T} {N : Nat} {As : List Value} {st0 : List Value} {P : Int → Mz → Mz → Prop} (hd : decode cc pc = .ok (.invokevirtual x, 3)) (cw : CwV own x y b mL ret na) (hcl : vwCl[ci]? = some (y.cls, T, N)) (hk : kd k = ci) (hci : ci < 13) (hC : Cz E.2.1 y b mL ret d' G (zr G k :: As) I J (fun v I' J' => ∃ r, v = (some (zl r)) ∧ P r I' J')) (hst : st0 = As.reverse ++ zr G k :: st) (hna : As.length = na) (hdd : d' < d) (hsm : (st.map fun v => v.category).sum ≤ 8) (kk : ∀ (r : Int) (I' J' : Mz), P r I' J' → Xz E G I' J' (pc + 3) lo (zl r :: st)) : Xz E G I J pc lo st0 := V_callV ok hd cw hcl hk (kd_lt hk (by omega)) hci hC hst hna hdd hsm (fun v I' J' hp => by
  obtain ⟨Iz, Jz, rfl, rfl, r, rfl, hp⟩ := hp
  exact kk r Iz Jz hp)
theorem Z_callVLd (ok : Ok E G own cc n d) {x k ci mL na d' : Nat} {y : MethodName} {b : ByteArray} {ret : Option FieldType} {T : u_T} {N : Nat} {As : List Value} {st0 : List Value} {r : Int} {I1 J1 : Mz} (hd : decode cc pc = .ok (.invokevirtual x, 3)) (cw : CwV own x y b mL ret na) (hcl : vwCl[ci]? = some (y.cls, T, N)) (hk : kd k = ci) (hci : ci < 13) (hC : Cz E.2.1 y b mL ret d' G (zr G k :: As) I J (pR (some (zl r)) I1 J1)) (hst : st0 = As.reverse ++ zr G k :: st) (hna : As.length = na) (hdd : d' < d) (hsm : (st.map fun v => v.category).sum ≤ 8) (kk : Xz E G I1 J1 (pc + 3) lo (zl r :: st)) : Xz E G I J pc lo st0 := V_callV ok hd cw hcl hk (kd_lt hk (by omega)) hci hC hst hna hdd hsm (fun v I' J' hp => by
  obtain ⟨Iz, Jz, rfl, rfl, rfl, rfl, rfl⟩ := hp
  exact kk)
theorem Z_callSV (ok : Ok E G own cc n d) {x mL na d' : Nat} {y : MethodName} {b : ByteArray} {ret : Option FieldType} {As : List Value} {st0 : List Value} {P : Mz → Mz → Prop} (hd : decode cc pc = .ok (.invokestatic x, 3)) (cw : CwS own x y b mL ret na) (hC : Cz E.2.1 y b mL ret d' G As I J (fun v I' J' => v = none ∧ P I' J')) (hst : st0 = As.reverse ++ st) (hna : As.length = na) (hdd : d' < d) (hsm : (st.map fun v => v.category).sum ≤ 8) (kk : ∀ (I' J' : Mz), P I' J' → Xz E G I' J' (pc + 3) lo st) : Xz E G I J pc lo st0 := V_callS ok hd cw hC hst hna hdd hsm (fun v I' J' hp => by
  obtain ⟨Iz, Jz, rfl, rfl, rfl, hp⟩ := hp
  exact kk Iz Jz hp)
theorem Z_callSVd (ok : Ok E G own cc n d) {x mL na d' : Nat} {y : MethodName} {b : ByteArray} {ret : Option FieldType} {As : List Value} {st0 : List Value} {I1 J1 : Mz} (hd : decode cc pc = .ok (.invokestatic x, 3)) (cw : CwS own x y b mL ret na) (hC : Cz E.2.1 y b mL ret d' G As I J (pR none I1 J1)) (hst : st0 = As.reverse ++ st) (hna : As.length = na) (hdd : d' < d) (hsm : (st.map fun v => v.category).sum ≤ 8) (kk : Xz E G I1 J1 (pc + 3) lo st) : Xz E G I J pc lo st0 := V_callS ok hd cw hC hst hna hdd hsm (fun v I' J' hp => by
  obtain ⟨Iz, Jz, rfl, rfl, rfl, rfl, rfl⟩ := hp
  exact kk)
theorem Z_callSI (ok : Ok E G own cc n d) {x mL na d' : Nat} {y : MethodName} {b : ByteArray} {ret : Option FieldType} {As : List Value} {st0 : List Value} {P : Int → Mz → Mz → Prop} (hd : decode cc pc = .ok (.invokestatic x, 3)) (cw : CwS own x y b mL ret na) (hC : Cz E.2.1 y b mL ret d' G As I J (fun v I' J' => ∃ r, v = (some (zi r)) ∧ P r I' J')) (hst : st0 = As.reverse ++ st) (hna : As.length = na) (hdd : d' < d) (hsm : (st.map fun v => v.category).sum ≤ 8) (kk : ∀ (r : Int) (I' J' : Mz), P r I' J' → Xz E G I' J' (pc + 3) lo (zi r :: st)) : Xz E G I J pc lo st0 := V_callS ok hd cw hC hst hna hdd hsm (fun v I' J' hp => by
  obtain ⟨Iz, Jz, rfl, rfl, r, rfl, hp⟩ := hp
  exact kk r Iz Jz hp)
theorem Z_callSId (ok : Ok E G own cc n d) {x mL na d' : Nat} {y : MethodName} {b : ByteArray} {ret : Option FieldType} {As : List Value} {st0 : List Value} {r : Int} {I1 J1 : Mz} (hd : decode cc pc = .ok (.invokestatic x, 3)) (cw : CwS own x y b mL ret na) (hC : Cz E.2.1 y b mL ret d' G As I J (pR (some (zi r)) I1 J1)) (hst : st0 = As.reverse ++ st) (hna : As.length = na) (hdd : d' < d) (hsm : (st.map fun v => v.category).sum ≤ 8) (kk : Xz E G I1 J1 (pc + 3) lo (zi r :: st)) : Xz E G I J pc lo st0 := V_callS ok hd cw hC hst hna hdd hsm (fun v I' J' hp => by
  obtain ⟨Iz, Jz, rfl, rfl, rfl, rfl, rfl⟩ := hp
  exact kk)
theorem Z_callSL (ok : Ok E G own cc n d) {x mL na d' : Nat} {y : MethodName} {b : ByteArray} {ret : Option FieldType} {As : List Value} {st0 : List Value} {P : Int → Mz → Mz → Prop} (hd : decode cc pc = .ok (.invokestatic x, 3)) (cw : CwS own x y b mL ret na) (hC : Cz E.2.1 y b mL ret d' G As I J (fun v I' J' => ∃ r, v = (some (zl r)) ∧ P r I' J')) (hst : st0 = As.reverse ++ st) (hna : As.length = na) (hdd : d' < d) (hsm : (st.map fun v => v.category).sum ≤ 8) (kk : ∀ (r : Int) (I' J' : Mz), P r I' J' → Xz E G I' J' (pc + 3) lo (zl r :: st)) : Xz E G I J pc lo st0 := V_callS ok hd cw hC hst hna hdd hsm (fun v I' J' hp => by
  obtain ⟨Iz, Jz, rfl, rfl, r, rfl, hp⟩ := hp
  exact kk r Iz Jz hp)
theorem Z_callSLd (ok : Ok E G own cc n d) {x mL na d' : Nat} {y : MethodName} {b : ByteArray} {ret : Option FieldType} {As : List Value} {st0 : List Value} {r : Int} {I1 J1 : Mz} (hd : decode cc pc = .ok (.invokestatic x, 3)) (cw : CwS own x y b mL ret na) (hC : Cz E.2.1 y b mL ret d' G As I J (pR (some (zl r)) I1 J1)) (hst : st0 = As.reverse ++ st) (hna : As.length = na) (hdd : d' < d) (hsm : (st.map fun v => v.category).sum ≤ 8) (kk : Xz E G I1 J1 (pc + 3) lo (zl r :: st)) : Xz E G I J pc lo st0 := V_callS ok hd cw hC hst hna hdd hsm (fun v I' J' hp => by
  obtain ⟨Iz, Jz, rfl, rfl, rfl, rfl, rfl⟩ := hp
  exact kk)
theorem Z_callNV (ok : Ok E G own cc n d) {x mL na d' : Nat} {y : MethodName} {b : ByteArray} {ret : Option FieldType} {host : String} {As : List Value} {st0 : List Value} {P : Mz → Mz → Prop} (hd : decode cc pc = .ok (.invokestatic x, 3)) (cw : CwN own x y b mL ret na host) (hC : Cz E.2.1 y b mL ret d' G As I J (fun v I' J' => v = none ∧ P I' J')) (hst : st0 = As.reverse ++ st) (hna : As.length = na) (hdd : d' < d) (hsm : (st.map fun v => v.category).sum ≤ 8) (kk : ∀ (I' J' : Mz), P I' J' → Xz E G I' J' (pc + 3) lo st) : Xz E G I J pc lo st0 := V_callN ok hd cw hC hst hna hdd hsm (fun v I' J' hp => by
  obtain ⟨Iz, Jz, rfl, rfl, rfl, hp⟩ := hp
  exact kk Iz Jz hp)
theorem Z_callNVd (ok : Ok E G own cc n d) {x mL na d' : Nat} {y : MethodName} {b : ByteArray} {ret : Option FieldType} {host : String} {As : List Value} {st0 : List Value} {I1 J1 : Mz} (hd : decode cc pc = .ok (.invokestatic x, 3)) (cw : CwN own x y b mL ret na host) (hC : Cz E.2.1 y b mL ret d' G As I J (pR none I1 J1)) (hst : st0 = As.reverse ++ st) (hna : As.length = na) (hdd : d' < d) (hsm : (st.map fun v => v.category).sum ≤ 8) (kk : Xz E G I1 J1 (pc + 3) lo st) : Xz E G I J pc lo st0 := V_callN ok hd cw hC hst hna hdd hsm (fun v I' J' hp => by
  obtain ⟨Iz, Jz, rfl, rfl, rfl, rfl, rfl⟩ := hp
  exact kk)
theorem Z_callNI (ok : Ok E G own cc n d) {x mL na d' : Nat} {y : MethodName} {b : ByteArray} {ret : Option FieldType} {host : String} {As : List Value} {st0 : List Value} {P : Int → Mz → Mz → Prop} (hd : decode cc pc = .ok (.invokestatic x, 3)) (cw : CwN own x y b mL ret na host) (hC : Cz E.2.1 y b mL ret d' G As I J (fun v I' J' => ∃ r, v = (some (zi r)) ∧ P r I' J')) (hst : st0 = As.reverse ++ st) (hna : As.length = na) (hdd : d' < d) (hsm : (st.map fun v => v.category).sum ≤ 8) (kk : ∀ (r : Int) (I' J' : Mz), P r I' J' → Xz E G I' J' (pc + 3) lo (zi r :: st)) : Xz E G I J pc lo st0 := V_callN ok hd cw hC hst hna hdd hsm (fun v I' J' hp => by
  obtain ⟨Iz, Jz, rfl, rfl, r, rfl, hp⟩ := hp
  exact kk r Iz Jz hp)
theorem Z_callNId (ok : Ok E G own cc n d) {x mL na d' : Nat} {y : MethodName} {b : ByteArray} {ret : Option FieldType} {host : String} {As : List Value} {st0 : List Value} {r : Int} {I1 J1 : Mz} (hd : decode cc pc = .ok (.invokestatic x, 3)) (cw : CwN own x y b mL ret na host) (hC : Cz E.2.1 y b mL ret d' G As I J (pR (some (zi r)) I1 J1)) (hst : st0 = As.reverse ++ st) (hna : As.length = na) (hdd : d' < d) (hsm : (st.map fun v => v.category).sum ≤ 8) (kk : Xz E G I1 J1 (pc + 3) lo (zi r :: st)) : Xz E G I J pc lo st0 := V_callN ok hd cw hC hst hna hdd hsm (fun v I' J' hp => by
  obtain ⟨Iz, Jz, rfl, rfl, rfl, rfl, rfl⟩ := hp
  exact kk)
theorem Z_callNL (ok : Ok E G own cc n d) {x mL na d' : Nat} {y : MethodName} {b : ByteArray} {ret : Option FieldType} {host : String} {As : List Value} {st0 : List Value} {P : Int → Mz → Mz → Prop} (hd : decode cc pc = .ok (.invokestatic x, 3)) (cw : CwN own x y b mL ret na host) (hC : Cz E.2.1 y b mL ret d' G As I J (fun v I' J' => ∃ r, v = (some (zl r)) ∧ P r I' J')) (hst : st0 = As.reverse ++ st) (hna : As.length = na) (hdd : d' < d) (hsm : (st.map fun v => v.category).sum ≤ 8) (kk : ∀ (r : Int) (I' J' : Mz), P r I' J' → Xz E G I' J' (pc + 3) lo (zl r :: st)) : Xz E G I J pc lo st0 := V_callN ok hd cw hC hst hna hdd hsm (fun v I' J' hp => by
  obtain ⟨Iz, Jz, rfl, rfl, r, rfl, hp⟩ := hp
  exact kk r Iz Jz hp)
theorem Z_callNLd (ok : Ok E G own cc n d) {x mL na d' : Nat} {y : MethodName} {b : ByteArray} {ret : Option FieldType} {host : String} {As : List Value} {st0 : List Value} {r : Int} {I1 J1 : Mz} (hd : decode cc pc = .ok (.invokestatic x, 3)) (cw : CwN own x y b mL ret na host) (hC : Cz E.2.1 y b mL ret d' G As I J (pR (some (zl r)) I1 J1)) (hst : st0 = As.reverse ++ st) (hna : As.length = na) (hdd : d' < d) (hsm : (st.map fun v => v.category).sum ≤ 8) (kk : Xz E G I1 J1 (pc + 3) lo (zl r :: st)) : Xz E G I J pc lo st0 := V_callN ok hd cw hC hst hna hdd hsm (fun v I' J' hp => by
  obtain ⟨Iz, Jz, rfl, rfl, rfl, rfl, rfl⟩ := hp
  exact kk)
theorem Z_look (ok : Ok E G own cc n d) {dflt : Int} {ps : Array (Int × Int)} {len : Nat} {a off : Int} {tgt : Nat} (hd : decode cc pc = .ok (.lookupswitch dflt ps, len)) (ha : -2147483648 ≤ a ∧ a ≤ 2147483647) (hp : (ps.toList.zip (ps.toList.drop 1)).all (fun (a, next) => a.1 < next.1) = true) (ho : Op.lookupswitch.offset ps.toList dflt a = off) (ht : (pc : Int) + off = (tgt : Int)) (k : Xz E G I J tgt lo st) : Xz E G I J pc lo (zi a :: st) := by
  obtain ⟨p, l, e, R, s, m, args, below, meth, c, Q, A, nL, cl, sl⟩ := E
  exact fun H locs hP hS ls hl => lv_lookup ok.1 ok.2.1 hd hp (by rw [t32 ha]; exact ho) ht (k H locs hP hS ls hl)
theorem Z_tabO (ok : Ok E G own cc n d) {dflt lw hg : Int} {offs : Array Int} {len : Nat} {a : Int} {tgt : Nat} (hd : decode cc pc = .ok (.tableswitch dflt lw hg offs, len)) (ha : -2147483648 ≤ a ∧ a ≤ 2147483647) (h : a < lw ∨ hg < a) (ht : (pc : Int) + dflt = (tgt : Int)) (k : Xz E G I J tgt lo st) : Xz E G I J pc lo (zi a :: st) := by
  obtain ⟨p, l, e, R, s, m, args, below, meth, c, Q, A, nL, cl, sl⟩ := E
  exact fun H locs hP hS ls hl => lv_tableOut ok.1 ok.2.1 hd (by rw [t32 ha]; exact h) ht (k H locs hP hS ls hl)
theorem Z_tabI (ok : Ok E G own cc n d) {dflt lw hg : Int} {offs : Array Int} {len : Nat} {a off : Int} {tgt : Nat} (hd : decode cc pc = .ok (.tableswitch dflt lw hg offs, len)) (ha : -2147483648 ≤ a ∧ a ≤ 2147483647) (h1 : lw ≤ a) (h2 : a ≤ hg) (ho : offs[(a - lw).toNat]? = some off) (ht : (pc : Int) + off = (tgt : Int)) (k : Xz E G I J tgt lo st) : Xz E G I J pc lo (zi a :: st) := by
  obtain ⟨p, l, e, R, s, m, args, below, meth, c, Q, A, nL, cl, sl⟩ := E
  exact fun H locs hP hS ls hl => lv_tableIn ok.1 ok.2.1 hd (by rw [t32 ha]; exact Int.not_lt.mpr h1) (by rw [t32 ha]; exact Int.not_lt.mpr h2) (by rw [t32 ha]; exact ho) ht (k H locs hP hS ls hl)
theorem em_r {a b : Int} (hb : 0 < b) (hb2 : b ≤ 2147483647) : -2147483648 ≤ a % b ∧ a % b ≤ 2147483647 := by
  have h1 := Int.emod_nonneg a (show b ≠ 0 by omega)
  have h2 := Int.emod_lt_of_pos a hb
  omega
theorem em_b (a : Int) {b : Int} (hb : 0 < b) : 0 ≤ a % b ∧ a % b < b := ⟨Int.emod_nonneg a (by omega), Int.emod_lt_of_pos a hb⟩
theorem di_b {a b : Int} (ha : 0 ≤ a) (hb : 0 < b) : 0 ≤ a / b ∧ a / b ≤ a := ⟨Int.ediv_nonneg ha (by omega), Int.ediv_le_self b ha⟩
theorem zUp {P : Int → Prop} {a N : Int} (hN : P N) (hs : ∀ i, a ≤ i → i < N → P (i + 1) → P i) : ∀ i, a ≤ i → i ≤ N → P i := by
  intro i ha hi
  obtain ⟨j, hj⟩ := Int.eq_ofNat_of_zero_le (show 0 ≤ N - i by omega)
  induction j generalizing i with
  | zero => have : i = N := by omega
            rw [this]; exact hN
  | succ j ih => exact hs i ha (by omega) (ih (i + 1) (by omega) (by omega) (by omega))
theorem zDown {P : Int → Prop} {a : Int} (h0 : P a) (hs : ∀ i, a < i → P (i - 1) → P i) : ∀ i, a ≤ i → P i := by
  intro i ha
  obtain ⟨j, hj⟩ := Int.eq_ofNat_of_zero_le (show 0 ≤ i - a by omega)
  induction j generalizing i with
  | zero => have : i = a := by omega
            rw [this]; exact h0
  | succ j ih => exact hs i (by omega) (ih (i - 1) (by omega) (by omega))
end ZR
