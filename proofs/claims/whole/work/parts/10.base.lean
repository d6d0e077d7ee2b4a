/-! ===== base: the memory of ints by object number, the worlds made of it, the rows over them ===== -/
abbrev zMem : Type := Nat → Nat → Int32
def zsa (σ : zMem) (o : Nat) (r : Nat → Int32) : zMem := fun a => if a = o then r else σ a
def zst (σ : zMem) (o k : Nat) (v : Int32) : zMem := zsa σ o (upd (σ o) k v)
theorem zsa_s {σ : zMem} {o : Nat} {r : Nat → Int32} : zsa σ o r o = r := by simp [zsa]
theorem zsa_n {σ : zMem} {o a : Nat} {r : Nat → Int32} (h : a ≠ o) : zsa σ o r a = σ a := by simp [zsa, h]
theorem zst_s {σ : zMem} {o k : Nat} {v : Int32} : zst σ o k v o = upd (σ o) k v := by simp [zst, zsa]
theorem zst_n {σ : zMem} {o a k : Nat} {v : Int32} (h : a ≠ o) : zst σ o k v a = σ a := by simp [zst, zsa, h]
def zgd {R : Type} (c : Prop) [Decidable c] (k : Option R) : Option R := if c then k else none
theorem zgd_inv {R : Type} {c : Prop} [Decidable c] {k : Option R} {r : R} (h : zgd c k = some r) : c ∧ k = some r := by
  unfold zgd at h
  by_cases hc : c
  · rw [if_pos hc] at h
    exact ⟨hc, h⟩
  · rw [if_neg hc] at h
    cases h
theorem zgd_t {R : Type} {c : Prop} [Decidable c] {k : Option R} (h : c) : zgd c k = k := by simp [zgd, h]
def zif {R : Type} (c : Prop) [Decidable c] (a b : Option R) : Option R := if c then a else b
theorem zif_t {R : Type} {c : Prop} [Decidable c] {a b : Option R} (h : c) {r : R} (e : zif c a b = some r) : a = some r := by
  unfold zif at e
  rw [if_pos h] at e
  exact e
theorem zif_f {R : Type} {c : Prop} [Decidable c] {a b : Option R} (h : ¬ c) {r : R} (e : zif c a b = some r) : b = some r := by
  unfold zif at e
  rw [if_neg h] at e
  exact e
def zbd {V R : Type} (x : Option (V × zMem)) (k : V → zMem → Option R) : Option R := match x with
  | some q => k q.1 q.2
  | none => none
theorem zbd_inv {V R : Type} {x : Option (V × zMem)} {k : V → zMem → Option R} {r : R} (h : zbd x k = some r) : ∃ (v : V) (σ : zMem), x = some (v, σ) ∧ k v σ = some r := by
  cases x with
  | none => cases h
  | some q => exact ⟨q.1, q.2, rfl, h⟩
def zlp {S R : Type} (body : (S → Option R) → S → Option R) : Nat → S → Option R
  | 0, _ => none
  | n + 1, s => body (zlp body n) s
def zlet {A R : Type} (x : A) (k : A → Option R) : Option R := k x
theorem zlet_inv {A R : Type} {x : A} {k : A → Option R} {r : R} (h : zlet x k = some r) : ∃ y, y = x ∧ k y = some r := ⟨x, rfl, h⟩
theorem zlp_0 {S R : Type} {body : (S → Option R) → S → Option R} {s : S} {r : R} (h : zlp body 0 s = some r) : False := by cases h
theorem zlp_s {S R : Type} {body : (S → Option R) → S → Option R} {n : Nat} {s : S} {r : R} (h : zlp body (n + 1) s = some r) : body (zlp body n) s = some r := h
/-- the cells of a world: object number o lies at ad o and holds what its kind makes of its ints -/
def zW (ct : Nat → (Nat → Int32) → va_E) (M : Nat) (ad : Nat → Nat) (σ : zMem) : va_W := (List.range M).map (fun o => (ad o, ct o (σ o)))
theorem zW_len {ct : Nat → (Nat → Int32) → va_E} {M : Nat} {ad : Nat → Nat} {σ : zMem} : (zW ct M ad σ).length = M := by simp [zW]
theorem zW_at {ct : Nat → (Nat → Int32) → va_E} {M : Nat} {ad : Nat → Nat} {σ : zMem} {o : Nat} {E : va_E} (h : o < M) (e : ct o (σ o) = E) : (zW ct M ad σ)[o]? = some (ad o, E) := by
  subst e
  unfold zW
  rw [List.getElem?_map, List.getElem?_range h]
  rfl
theorem zW_out {ct : Nat → (Nat → Int32) → va_E} {M : Nat} {ad : Nat → Nat} {σ : zMem} {i : Nat} (h : ¬ i < M) : (zW ct M ad σ)[i]? = none := List.getElem?_eq_none (by rw [zW_len]; omega)
theorem zW_setA {ct : Nat → (Nat → Int32) → va_E} {M : Nat} {ad : Nat → Nat} {σ : zMem} {o : Nat} {r : Nat → Int32} {E : va_E} (h : o < M) (e : ct o r = E) : (zW ct M ad σ).set o (ad o, E) = zW ct M ad (zsa σ o r) := by
  apply List.ext_getElem?
  intro i
  by_cases hi : i < M
  · by_cases hio : i = o
    · subst hio
      rw [List.getElem?_set_self (by rw [zW_len]; exact hi), zW_at (E := E) hi (by rw [zsa_s]; exact e)]
    · rw [List.getElem?_set_ne (fun q => hio q.symm), zW_at hi rfl, zW_at (E := ct i (σ i)) hi (by rw [zsa_n hio])]
  · rw [zW_out hi, List.getElem?_eq_none (by rw [List.length_set, zW_len]; omega)]
theorem zW_set {ct : Nat → (Nat → Int32) → va_E} {M : Nat} {ad : Nat → Nat} {σ : zMem} {o k : Nat} {v : Int32} {E : va_E} (h : o < M) (e : ct o (upd (σ o) k v) = E) : (zW ct M ad σ).set o (ad o, E) = zW ct M ad (zst σ o k v) := zW_setA h e
/-- the private isBelow of the nest, as Province and YearRun link it -/
def zN (U : State) : Prop := va_Nw (.methodLinkNest RX4 45 yX9_isBelow RX9) U ∧ va_Nw (.methodLinkNest RX8 24 yX9_isBelow RX9) U
theorem zN.same {u U : State} (h : u.vm = U.vm) (q : zN u) : zN U := ⟨va_Nw.same rfl h q.1, va_Nw.same rfl h q.2⟩
theorem zN.warm {s U : State} (hW : s.WarmedH U.vm) (q : zN s) : zN U := ⟨va_Nw.warmM hW q.1, va_Nw.warmM hW q.2⟩
/-- the world before and behind a method -/
def zB (ct : Nat → (Nat → Int32) → va_E) (M : Nat) (ad : Nat → Nat) (D : va_G) (tys : List (ClassId × FieldType)) (A : Nat → Prop) (σ : zMem) (U : State) : Prop := va_P D vwCl (zW ct M ad σ) U.heap ∧ va_K D vwCl tys U ∧ va_D A (zW ct M ad σ) ∧ zN U
theorem zB_blind {ct : Nat → (Nat → Int32) → va_E} {M : Nat} {ad : Nat → Nat} {D : va_G} {tys : List (ClassId × FieldType)} {A : Nat → Prop} {σ : zMem} {As : List Value} : FrameBlind (va_Pc As (zB ct M ad D tys A σ)) := fun a U g mk q => ⟨q.1, q.2.1, va_K.moved (u := U) (U := U.calling g mk a) (Vm.Alike.refl U.vm) q.2.2.1, q.2.2.2.1, zN.same (u := U) rfl q.2.2.2.2⟩
theorem z_preS {ct : Nat → (Nat → Int32) → va_E} {M : Nat} {ad : Nat → Nat} {D : va_G} {tys : List (ClassId × FieldType)} {A : Nat → Prop} {σ : zMem} {s : State} {H : Heap} {As : List Value} (hN : zN s) (hK : va_K D vwCl tys s) (hP : va_P D vwCl (zW ct M ad σ) H) (hD : va_D A (zW ct M ad σ)) : PreS s H (va_Pc As (zB ct M ad D tys A σ)) As := ⟨zB_blind, fun U hU hW => ⟨rfl, by rw [hU]; exact hP, va_K.moved hW.alike hK, hD, zN.warm hW hN⟩⟩
theorem z_preV {ct : Nat → (Nat → Int32) → va_E} {M : Nat} {ad : Nat → Nat} {D : va_G} {tys : List (ClassId × FieldType)} {A : Nat → Prop} {σ : zMem} {s : State} {H : Heap} {As : List Value} {o ci : Nat} {fs : List Value} {C : String} {T : u_T} {N : Nat} (hN : zN s) (hK : va_K D vwCl tys s) (hP : va_P D vwCl (zW ct M ad σ) H) (hD : va_D A (zW ct M ad σ)) (ho : o < M) (he : ct o (σ o) = .inr (ci, fs)) (hc : vwCl[ci]? = some (C, T, N)) : PreV s H C (ad o) (va_Pc (.ref (ad o) :: As) (zB ct M ad D tys A σ)) As :=
  ⟨zB_blind, va_recv hK hP hc (zW_at ho he), fun U hU hW => ⟨rfl, by rw [hU]; exact hP, va_K.moved hW.alike hK, hD, zN.warm hW hN⟩⟩
section ZROW
variable {p : Program} {l : Launch} {e : Env} {R : Room} {s : State} {m : MethodId} {args : Array Value} {below : List Frame} {meth : Method} {c : Code} {H : Heap} {locs : List Loc} {cells slots : Nat} {Q : State → Prop}
variable {cc : ByteArray} {pc : Nat} {ls : Array Slot} {rest st0 : List Value} {D : va_G} {tys : List (ClassId × FieldType)} {A : Nat → Prop} {H0 : Heap} {ct : Nat → (Nat → Int32) → va_E} {M : Nat} {ad : Nat → Nat} {σ σ' : zMem} {a : Array Value}
theorem z_get (hexec : p.tables.exec = Jvm.exec) (hb : c.code = cc) {own ref C : String} {T : u_T} {N ci index : Nat} {Ts : List Cond} (hts : ∀ w ∈ Ts, w.before args s = true) (hin : ∀ w ∈ u_ws C T N, w ∈ Ts) (hown : s.vm.findClass own = some m.cls) (hK : va_K D vwCl tys s) (hP : va_P D vwCl (zW ct M ad σ) H) {o : Nat} (ho : o < M) {fs : List Value} (he : ct o (σ o) = .inr (ci, fs)) (hc : vwCl[ci]? = some (C, T, N)) (k : Nat) (hk : k < N) (hlink : Cond.fieldLink own index ref (T k).2.1 (T k).2.2.1 ∈ Ts) (href : (T k).1 = ref) {v : Value} (hv : fs[k]? = some v) (hdg : decode cc pc = .ok (.getfield index, 3))
    (kk : W p l e R s m args below meth c H locs cells slots Q (F0 m (pc + 3) ls (v :: rest))) : W p l e R s m args below meth c H locs cells slots Q (F0 m pc ls (.ref (ad o) :: rest)) :=
  va_get hexec hb hts hin hown hK hP o (zW_at ho he) hc k hk (hts _ hlink) (fun _ h9 => by rw [← href]; exact h9) hv hdg kk
theorem z_put (hexec : p.tables.exec = Jvm.exec) (hb : c.code = cc) {own ref C : String} {T : u_T} {N ci index : Nat} {Ts : List Cond} (hts : ∀ w ∈ Ts, w.before args s = true) (hin : ∀ w ∈ u_ws C T N, w ∈ Ts) (ty0 : Nat → FieldType) (hty : ∀ k, k < N → parseFieldDescriptor (T k).2.2.1 = some (ty0 k)) (hnm : ∀ a, a < N → ∀ b, b < N → a ≠ b → (T a).2.1 ≠ (T b).2.1) (hown : s.vm.findClass own = some m.cls) (hK : va_K D vwCl tys s) (hP : va_P D vwCl (zW ct M ad σ) H) (hD : va_D A (zW ct M ad σ)) (hS : va_S A H0 H locs) {o : Nat} (ho : o < M) {fs : List Value} (he : ct o (σ o) = .inr (ci, fs)) (hc : vwCl[ci]? = some (C, T, N)) (k : Nat) (hk : k < N) (hlink : Cond.fieldLink own index ref (T k).2.1 (T k).2.2.1 ∈ Ts) (href : (T k).1 = ref) (hfin : (T k).2.2.2 = false) {v : Int32} (hn : narrow (ty0 k) (.int v) = .int v) (hfit : fits (ty0 k) (.int v) = true) (hl : k < fs.length) (hset : ct o (upd (σ o) k v) = .inr (ci, fs.set k (.int v)))
    (hdg : decode cc pc = .ok (.putfield index, 3)) (kk : ∀ (H1 : Heap) (locs1 : List Loc), va_P D vwCl (zW ct M ad (zst σ o k v)) H1 → va_D A (zW ct M ad (zst σ o k v)) → va_S A H0 H1 locs1 → W p l e R s m args below meth c H1 locs1 cells slots Q (F0 m (pc + 3) ls rest)) : W p l e R s m args below meth c H locs cells slots Q (F0 m pc ls (.int v :: .ref (ad o) :: rest)) :=
  va_put hexec hb hts hin ty0 hty hnm hown hK hP hD hS o (zW_at ho he) hc k hk (hts _ hlink) (fun _ h9 => by rw [← href]; exact h9) hfin (hty k hk) hn hfit hl hdg (fun H1 locs1 h1 h2 h3 => kk H1 locs1 (by rw [zW_set ho hset] at h1; exact h1) (by rw [zW_set ho hset] at h2; exact h2) h3)
theorem z_iald (hexec : p.tables.exec = Jvm.exec) (hb : c.code = cc) (hK : va_K D vwCl tys s) (hP : va_P D vwCl (zW ct M ad σ) H) {o : Nat} (ho : o < M) {cA : ClassId} {n : Nat} (he : ct o (σ o) = .inl (cA, n, .inl (σ o))) (ht : tys[0]? = some (cA, .int)) {i : Int32} (hin : ¬ (i < 0 ∨ n ≤ i.toNatClampNeg)) (hdg : decode cc pc = .ok (.iaload, 1))
    (kk : W p l e R s m args below meth c H locs cells slots Q (F0 m (pc + 1) ls (.int (σ o i.toNatClampNeg) :: rest))) : W p l e R s m args below meth c H locs cells slots Q (F0 m pc ls (.int i :: .ref (ad o) :: rest)) :=
  va_iald hexec hb hK hP o 0 (zW_at ho he) ht hin hdg kk
theorem z_iast (hexec : p.tables.exec = Jvm.exec) (hb : c.code = cc) (hK : va_K D vwCl tys s) (hP : va_P D vwCl (zW ct M ad σ) H) (hD : va_D A (zW ct M ad σ)) (hS : va_S A H0 H locs) {o : Nat} (ho : o < M) {cA : ClassId} {n : Nat} (he : ∀ r : Nat → Int32, ct o r = .inl (cA, n, .inl r)) (ht : tys[0]? = some (cA, .int)) {i x : Int32} (hin : ¬ (i < 0 ∨ n ≤ i.toNatClampNeg)) (hdg : decode cc pc = .ok (.iastore, 1))
    (kk : ∀ (H1 : Heap) (locs1 : List Loc), va_P D vwCl (zW ct M ad (zst σ o i.toNatClampNeg x)) H1 → va_D A (zW ct M ad (zst σ o i.toNatClampNeg x)) → va_S A H0 H1 locs1 → W p l e R s m args below meth c H1 locs1 cells slots Q (F0 m (pc + 1) ls rest)) : W p l e R s m args below meth c H locs cells slots Q (F0 m pc ls (.int x :: .int i :: .ref (ad o) :: rest)) :=
  va_iast hexec hb hK hP hD hS o 0 (zW_at ho (he _)) ht hin hdg (fun H1 locs1 h1 h2 h3 => kk H1 locs1 (by rw [zW_set ho (he _)] at h1; exact h1) (by rw [zW_set ho (he _)] at h2; exact h2) h3)
theorem z_aldq (hexec : p.tables.exec = Jvm.exec) (hb : c.code = cc) (hK : va_K D vwCl tys s) (hP : va_P D vwCl (zW ct M ad σ) H) (t0 : Nat) {o : Nat} (ho : o < M) {cA : ClassId} {C : String} {n : Nat} {g : Nat → Nat} (he : ct o (σ o) = .inl (cA, n, .inr (.inr (.inr (.inr (fun j => some (ad (g j)))))))) (ht : tys[t0]? = some (cA, .object C)) {i : Int32} (hin : ¬ (i < 0 ∨ n ≤ i.toNatClampNeg)) (hdg : decode cc pc = .ok (.aaload, 1))
    (kk : W p l e R s m args below meth c H locs cells slots Q (F0 m (pc + 1) ls (.ref (ad (g i.toNatClampNeg)) :: rest))) : W p l e R s m args below meth c H locs cells slots Q (F0 m pc ls (.int i :: .ref (ad o) :: rest)) :=
  va_aldq hexec hb hK hP o t0 (zW_at ho he) ht hin hdg kk
theorem z_alen (hexec : p.tables.exec = Jvm.exec) (hb : c.code = cc) (hK : va_K D vwCl tys s) (hP : va_P D vwCl (zW ct M ad σ) H) {o : Nat} (ho : o < M) {cA : ClassId} {n : Nat} (he : ct o (σ o) = .inl (cA, n, .inl (σ o))) (ht : tys[0]? = some (cA, .int)) {v : Int32} (hv : Int32.ofNat n = v) (hdg : decode cc pc = .ok (.arraylength, 1))
    (kk : W p l e R s m args below meth c H locs cells slots Q (F0 m (pc + 1) ls (.int v :: rest))) : W p l e R s m args below meth c H locs cells slots Q (F0 m pc ls (.ref (ad o) :: rest)) :=
  va_alen hexec hb hK hP o 0 (zW_at ho he) ht hv hdg kk
theorem z_copy (hexec : p.tables.exec = Jvm.exec) (hb : c.code = cc) (hml : c.maxLocals = ls.size) {own : String} {index : Nat} (hown : s.vm.findClass own = some m.cls) (hlink : (Cond.methodLink own index arraycopyName).before args s = true) (hnat : (Cond.native arraycopyName).before args s = true) (hstat : (Cond.static arraycopyName).before args s = true) (hini : (Cond.initialized "java/lang/System").before args s = true)
    (hK : va_K D vwCl tys s) (hP : va_P D vwCl (zW ct M ad σ) H) (hD : va_D A (zW ct M ad σ)) (hS : va_S A H0 H locs) {o0 o1 : Nat} {cA : ClassId} {n0 n1 : Nat} (ho0 : o0 < M) (he0 : ct o0 (σ o0) = .inl (cA, n0, .inl (σ o0))) (ho1 : o1 < M) (he1 : ∀ r : Nat → Int32, ct o1 r = .inl (cA, n1, .inl r)) (ht : tys[0]? = some (cA, .int))
    {sp dp n : Int32} (hg : (¬ sp < 0 ∧ ¬ dp < 0 ∧ ¬ n < 0) ∧ sp.toNatClampNeg + n.toNatClampNeg ≤ n0 ∧ dp.toNatClampNeg + n.toNatClampNeg ≤ n1)
    (hframes : 1 ≤ R.frames) (hlocals : (rest.map fun v => v.category).sum + (nativeFrameWords "java/lang/System" "arraycopy" 5 + 11) ≤ R.locals) (hdg : decode cc pc = .ok (.invokestatic index, 3))
    (kk : ∀ (H1 : Heap) (locs1 : List Loc), va_P D vwCl (zW ct M ad (zsa σ o1 (va_cpy (σ o0) (σ o1) sp.toNatClampNeg dp.toNatClampNeg n.toNatClampNeg))) H1 → va_D A (zW ct M ad (zsa σ o1 (va_cpy (σ o0) (σ o1) sp.toNatClampNeg dp.toNatClampNeg n.toNatClampNeg))) → va_S A H0 H1 locs1 → W p l e R s m args below meth c H1 locs1 cells slots Q (F0 m (pc + 3) ls rest)) : W p l e R s m args below meth c H locs cells slots Q (F0 m pc ls (.int n :: .int dp :: .ref (ad o1) :: .int sp :: .ref (ad o0) :: rest)) :=
  va_copyi hexec hb hml hown hlink hnat hstat hini hK hP hD hS o0 o1 0 0 (zW_at ho0 he0) (zW_at ho1 (he1 _)) ht ht rfl hg.1.1 hg.1.2.1 hg.1.2.2 hg.2.1 hg.2.2 (fun _ _ => rfl) hframes hlocals hdg (fun H1 locs1 h1 h2 h3 => kk H1 locs1 (by rw [zW_setA ho1 (he1 _)] at h1; exact h1) (by rw [zW_setA ho1 (he1 _)] at h2; exact h2) h3)
theorem z_calli {r0 : Int32} (hr : va_Run p l e R s m args below meth c H locs cells slots 0 0 (F0 m pc ls st0) rest (va_Qi (fun r u => r = r0 ∧ u = σ') (zB ct M ad D tys A) A a) A) (hS : va_S A H0 H locs)
    (kk : ∀ (H1 : Heap) (locs1 : List Loc), va_P D vwCl (zW ct M ad σ') H1 → va_D A (zW ct M ad σ') → va_S A H0 H1 locs1 → W p l e R s m args below meth c H1 locs1 cells slots Q (F0 m (pc + 3) ls (.int r0 :: rest))) : W p l e R s m args below meth c H locs cells slots Q (F0 m pc ls st0) :=
  va_calli hr hS (fun _ _ h => h) (fun _ h => h) (fun r u t H1 locs1 ht hvm hp hB hz hk hS1 => by
    obtain ⟨rfl, rfl⟩ := hp
    obtain ⟨h1, h2, h3, -⟩ := hB
    rw [ht] at h1
    exact kk H1 locs1 h1 h3 hS1)
theorem z_calll {r0 : Int64} (hr : va_Run p l e R s m args below meth c H locs cells slots 0 0 (F0 m pc ls st0) rest (va_Ql (fun r u => r = r0 ∧ u = σ') (zB ct M ad D tys A) A a) A) (hS : va_S A H0 H locs)
    (kk : ∀ (H1 : Heap) (locs1 : List Loc), va_P D vwCl (zW ct M ad σ') H1 → va_D A (zW ct M ad σ') → va_S A H0 H1 locs1 → W p l e R s m args below meth c H1 locs1 cells slots Q (F0 m (pc + 3) ls (.long r0 :: rest))) : W p l e R s m args below meth c H locs cells slots Q (F0 m pc ls st0) :=
  va_calll hr hS (fun _ _ h => h) (fun _ h => h) (fun r u t H1 locs1 ht hvm hp hB hz hk hS1 => by
    obtain ⟨rfl, rfl⟩ := hp
    obtain ⟨h1, h2, h3, -⟩ := hB
    rw [ht] at h1
    exact kk H1 locs1 h1 h3 hS1)
theorem z_callv (hr : va_Run p l e R s m args below meth c H locs cells slots 0 0 (F0 m pc ls st0) rest (va_Qv (fun u => u = σ') (zB ct M ad D tys A) A a) A) (hS : va_S A H0 H locs)
    (kk : ∀ (H1 : Heap) (locs1 : List Loc), va_P D vwCl (zW ct M ad σ') H1 → va_D A (zW ct M ad σ') → va_S A H0 H1 locs1 → W p l e R s m args below meth c H1 locs1 cells slots Q (F0 m (pc + 3) ls rest)) : W p l e R s m args below meth c H locs cells slots Q (F0 m pc ls st0) :=
  va_callv hr hS (fun _ _ h => h) (fun _ h => h) (fun u t H1 locs1 ht hvm hp hB hz hk hS1 => by
    subst hp
    obtain ⟨h1, h2, h3, -⟩ := hB
    rw [ht] at h1
    exact kk H1 locs1 h1 h3 hS1)
theorem z_iret {v r0 : Int32} (hexec : p.tables.exec = Jvm.exec) (hb : c.code = cc) (hr : meth.sig.returnType = some .int) (hlocks : meth.locks = false) (hN : zN s) (hK : va_K D vwCl tys s) (hP : va_P D vwCl (zW ct M ad σ) H) (hD : va_D A (zW ct M ad σ)) (hS : va_S A s.heap H locs) (hF : some (v, σ) = some (r0, σ')) (hdg : decode cc pc = .ok (.ireturn, 1)) : W p l e R s m args below meth c H locs cells slots (MQ below (va_Qi (fun r u => r = r0 ∧ u = σ') (zB ct M ad D tys A) A) args s cells slots A) (F0 m pc ls [.int v]) := by
  cases hF
  exact W.iret hexec hb hr (fun t ht hW => ⟨⟨v, σ, rfl, ⟨rfl, rfl⟩, by rw [ht]; exact hP, va_K.moved hW.alike hK, hD, zN.warm hW hN⟩, hS.F ht⟩) hS.2.2 hdg hlocks
theorem z_zret {v r0 : Int32} (hexec : p.tables.exec = Jvm.exec) (hb : c.code = cc) (hr : meth.sig.returnType = some .boolean) (hlocks : meth.locks = false) (hv : v = 0 ∨ v = 1) (hN : zN s) (hK : va_K D vwCl tys s) (hP : va_P D vwCl (zW ct M ad σ) H) (hD : va_D A (zW ct M ad σ)) (hS : va_S A s.heap H locs) (hF : some (v, σ) = some (r0, σ')) (hdg : decode cc pc = .ok (.ireturn, 1)) : W p l e R s m args below meth c H locs cells slots (MQ below (va_Qi (fun r u => r = r0 ∧ u = σ') (zB ct M ad D tys A) A) args s cells slots A) (F0 m pc ls [.int v]) := by
  cases hF
  exact W.zret hexec hb hr (by rcases hv with h | h <;> subst h <;> rfl) (fun t ht hW => ⟨⟨v, σ, rfl, ⟨rfl, rfl⟩, by rw [ht]; exact hP, va_K.moved hW.alike hK, hD, zN.warm hW hN⟩, hS.F ht⟩) hS.2.2 hdg hlocks
theorem z_lret {v r0 : Int64} (hexec : p.tables.exec = Jvm.exec) (hb : c.code = cc) (hr : meth.sig.returnType = some .long) (hlocks : meth.locks = false) (hN : zN s) (hK : va_K D vwCl tys s) (hP : va_P D vwCl (zW ct M ad σ) H) (hD : va_D A (zW ct M ad σ)) (hS : va_S A s.heap H locs) (hF : some (v, σ) = some (r0, σ')) (hdg : decode cc pc = .ok (.lreturn, 1)) : W p l e R s m args below meth c H locs cells slots (MQ below (va_Ql (fun r u => r = r0 ∧ u = σ') (zB ct M ad D tys A) A) args s cells slots A) (F0 m pc ls [.long v]) := by
  cases hF
  exact W.lret hexec hb hr (fun t ht hW => ⟨⟨v, σ, rfl, ⟨rfl, rfl⟩, by rw [ht]; exact hP, va_K.moved hW.alike hK, hD, zN.warm hW hN⟩, hS.F ht⟩) hS.2.2 hdg hlocks
theorem z_vret {v r0 : Int32} (hexec : p.tables.exec = Jvm.exec) (hb : c.code = cc) (hr : meth.sig.returnType = none) (hlocks : meth.locks = false) (hN : zN s) (hK : va_K D vwCl tys s) (hP : va_P D vwCl (zW ct M ad σ) H) (hD : va_D A (zW ct M ad σ)) (hS : va_S A s.heap H locs) (hF : some (v, σ) = some (r0, σ')) (hdg : decode cc pc = .ok (.return_, 1)) : W p l e R s m args below meth c H locs cells slots (MQ below (va_Qv (fun u => u = σ') (zB ct M ad D tys A) A) args s cells slots A) (F0 m pc ls []) := by
  cases hF
  exact W.vret hexec hb hr (fun t ht hW => ⟨⟨σ, rfl, rfl, by rw [ht]; exact hP, va_K.moved hW.alike hK, hD, zN.warm hW hN⟩, hS.F ht⟩) hS.2.2 hdg hlocks
end ZROW
/-! ===== the class's world: numbers of its objects, and what each holds ===== -/
def zxL : List Nat := [8, 21, 6, 6, 6, 6, 160, 160, 160, 160, 4, 103, 22, 2, 2, 2, 2, 2, 2, 4, 103, 22, 2, 2, 2, 2, 2, 2, 7, 3, 107, 107, 107, 228, 1, 103, 5, 108, 108, 108, 0]
def zk (o : Nat) : Nat := zxL.getD o 99
abbrev zty (cI cS cP : ClassId) : List (ClassId × FieldType) := [(cI, .int), (cS, .object "LeastAsked$Sheet"), (cP, .object "LeastAsked$Person")]
def zx (cI cS cP : ClassId) (ad : Nat → Nat) (o : Nat) (r : Nat → Int32) : va_E :=
  if zk o = 0 then .inr (0, [.int (r 0)])
  else if zk o = 1 then .inr (1, [.ref (ad (o + 1)), .int (r 1)])
  else if zk o = 2 then .inr (2, [.int (r 0), .int (r 1), .int (r 2), .int (r 3)])
  else if zk o = 3 then .inr (3, [.ref (ad (o + 1)), .ref (ad (o + 2)), .ref (ad (o + 3)), .ref (ad (o + 4)), .int (r 4)])
  else if zk o = 4 then .inr (4, [.ref (ad (o + 1)), .ref (ad (o + 2)), .int (r 2)])
  else if zk o = 5 then .inr (5, [.ref (ad (o + 1)), .ref (ad (o + 2)), .ref (ad (o + 3)), .int (r 3)])
  else if zk o = 6 then .inr (6, [.ref (ad (o + 4)), .int (r 1), .int (r 2), .int (r 3)])
  else if zk o = 7 then .inr (7, [.int (r 0), .int (r 1), .int (r 2), .int (r 3)])
  else if zk o = 8 then .inr (8, [.ref (ad 1), .ref (ad 10), .ref (ad 19), .ref (ad 28), .ref (ad 29), .ref (ad 34), .ref (ad 36), .ref (ad 40), .int (r 8), .int (r 9), .int (r 10)])
  else if zk o = 21 then .inl (cS, 4, .inr (.inr (.inr (.inr (fun j => some (ad (2 + j)))))))
  else if zk o = 22 then .inl (cP, 6, .inr (.inr (.inr (.inr (fun j => some (ad (o + 1 + j)))))))
  else .inl (cI, zk o - 100, .inl r)
theorem zk_lt {o k : Nat} (h : zk o = k) (hk : k ≠ 99) : o < 41 := by
  rcases Nat.lt_or_ge o 41 with q | q
  · exact q
  · refine absurd ?_ hk
    rw [← h]
    unfold zk
    rw [List.getD_eq_getElem?_getD, List.getElem?_eq_none (by exact q)]
    rfl
section ZX
variable {cI cS cP : ClassId} {ad : Nat → Nat} {o : Nat} {r : Nat → Int32}
theorem zx_0 (h : zk o = 0) : zx cI cS cP ad o r = .inr (0, [.int (r 0)]) := by simp [zx, h]
theorem zx_1 (h : zk o = 1) : zx cI cS cP ad o r = .inr (1, [.ref (ad (o + 1)), .int (r 1)]) := by simp [zx, h]
theorem zx_2 (h : zk o = 2) : zx cI cS cP ad o r = .inr (2, [.int (r 0), .int (r 1), .int (r 2), .int (r 3)]) := by simp [zx, h]
theorem zx_3 (h : zk o = 3) : zx cI cS cP ad o r = .inr (3, [.ref (ad (o + 1)), .ref (ad (o + 2)), .ref (ad (o + 3)), .ref (ad (o + 4)), .int (r 4)]) := by simp [zx, h]
theorem zx_4 (h : zk o = 4) : zx cI cS cP ad o r = .inr (4, [.ref (ad (o + 1)), .ref (ad (o + 2)), .int (r 2)]) := by simp [zx, h]
theorem zx_5 (h : zk o = 5) : zx cI cS cP ad o r = .inr (5, [.ref (ad (o + 1)), .ref (ad (o + 2)), .ref (ad (o + 3)), .int (r 3)]) := by simp [zx, h]
theorem zx_6 (h : zk o = 6) : zx cI cS cP ad o r = .inr (6, [.ref (ad (o + 4)), .int (r 1), .int (r 2), .int (r 3)]) := by simp [zx, h]
theorem zx_7 (h : zk o = 7) : zx cI cS cP ad o r = .inr (7, [.int (r 0), .int (r 1), .int (r 2), .int (r 3)]) := by simp [zx, h]
theorem zx_8 (h : zk o = 8) : zx cI cS cP ad o r = .inr (8, [.ref (ad 1), .ref (ad 10), .ref (ad 19), .ref (ad 28), .ref (ad 29), .ref (ad 34), .ref (ad 36), .ref (ad 40), .int (r 8), .int (r 9), .int (r 10)]) := by simp [zx, h]
theorem zx_21 (h : zk o = 21) : zx cI cS cP ad o r = .inl (cS, 4, .inr (.inr (.inr (.inr (fun j => some (ad (2 + j))))))) := by simp [zx, h]
theorem zx_22 (h : zk o = 22) : zx cI cS cP ad o r = .inl (cP, 6, .inr (.inr (.inr (.inr (fun j => some (ad (o + 1 + j))))))) := by simp [zx, h]
theorem zx_103 (h : zk o = 103) : zx cI cS cP ad o r = .inl (cI, 3, .inl r) := by simp [zx, h]
theorem zx_107 (h : zk o = 107) : zx cI cS cP ad o r = .inl (cI, 7, .inl r) := by simp [zx, h]
theorem zx_108 (h : zk o = 108) : zx cI cS cP ad o r = .inl (cI, 8, .inl r) := by simp [zx, h]
theorem zx_160 (h : zk o = 160) : zx cI cS cP ad o r = .inl (cI, 60, .inl r) := by simp [zx, h]
theorem zx_228 (h : zk o = 228) : zx cI cS cP ad o r = .inl (cI, 128, .inl r) := by simp [zx, h]
end ZX
theorem zk_a6 : ∀ o, o < 41 → zk o = 6 → zk (o + 4) = 160 := by decide +kernel
theorem zk_a4 : ∀ o, o < 41 → zk o = 4 → zk (o + 1) = 103 ∧ zk (o + 2) = 22 := by decide +kernel
theorem zk_a22 : ∀ o, o < 41 → zk o = 22 → ∀ j, j < 6 → zk (o + 1 + j) = 2 := by decide +kernel
theorem zk_a21 : ∀ j, j < 4 → zk (2 + j) = 6 := by decide +kernel
theorem zk_a1 : ∀ o, o < 41 → zk o = 1 → zk (o + 1) = 103 := by decide +kernel
theorem zk_a3 : ∀ o, o < 41 → zk o = 3 → zk (o + 1) = 107 ∧ zk (o + 2) = 107 ∧ zk (o + 3) = 107 ∧ zk (o + 4) = 228 := by decide +kernel
theorem zk_a5 : ∀ o, o < 41 → zk o = 5 → zk (o + 1) = 108 ∧ zk (o + 2) = 108 ∧ zk (o + 3) = 108 := by decide +kernel
theorem zin_lt {i : Int32} {n : Nat} (h : ¬ (i < 0 ∨ n ≤ i.toNatClampNeg)) : i.toNatClampNeg < n := by
  rcases Nat.lt_or_ge i.toNatClampNeg n with q | q
  · exact q
  · exact absurd (Or.inr q) h
theorem zk_6c {o : Nat} (h : zk o = 6) : zk (o + 4) = 160 := zk_a6 o (zk_lt h (by decide)) h
theorem zk_4w {o : Nat} (h : zk o = 4) : zk (o + 1) = 103 := (zk_a4 o (zk_lt h (by decide)) h).1
theorem zk_4p {o : Nat} (h : zk o = 4) : zk (o + 2) = 22 := (zk_a4 o (zk_lt h (by decide)) h).2
theorem zk_22p {o : Nat} (h : zk o = 22) {i : Int32} (hi : ¬ (i < 0 ∨ 6 ≤ i.toNatClampNeg)) : zk (o + 1 + i.toNatClampNeg) = 2 := zk_a22 o (zk_lt h (by decide)) h _ (zin_lt hi)
theorem zk_21s {o : Nat} (_ : zk o = 21) {i : Int32} (hi : ¬ (i < 0 ∨ 4 ≤ i.toNatClampNeg)) : zk (2 + i.toNatClampNeg) = 6 := zk_a21 _ (zin_lt hi)
theorem zk_1r {o : Nat} (h : zk o = 1) : zk (o + 1) = 103 := zk_a1 o (zk_lt h (by decide)) h
theorem zk_3a {o : Nat} (h : zk o = 3) : zk (o + 1) = 107 := (zk_a3 o (zk_lt h (by decide)) h).1
theorem zk_3b {o : Nat} (h : zk o = 3) : zk (o + 2) = 107 := (zk_a3 o (zk_lt h (by decide)) h).2.1
theorem zk_3c {o : Nat} (h : zk o = 3) : zk (o + 3) = 107 := (zk_a3 o (zk_lt h (by decide)) h).2.2.1
theorem zk_3d {o : Nat} (h : zk o = 3) : zk (o + 4) = 228 := (zk_a3 o (zk_lt h (by decide)) h).2.2.2
theorem zk_5a {o : Nat} (h : zk o = 5) : zk (o + 1) = 108 := (zk_a5 o (zk_lt h (by decide)) h).1
theorem zk_5b {o : Nat} (h : zk o = 5) : zk (o + 2) = 108 := (zk_a5 o (zk_lt h (by decide)) h).2.1
theorem zk_5c {o : Nat} (h : zk o = 5) : zk (o + 3) = 108 := (zk_a5 o (zk_lt h (by decide)) h).2.2
/-! ===== the reference's world: object 0, its rows 1 .. 19 ===== -/
def zmL : List Nat := [99, 4, 4, 240, 3, 6, 6, 6, 6, 3, 24, 6, 6, 7, 7, 3, 3, 8, 8, 8]
def zm (cI : ClassId) (ad : Nat → Nat) (o : Nat) (r : Nat → Int32) : va_E :=
  if o = 0 then .inr (9, [.int (r 0), .int (r 1), .ref (ad 1), .ref (ad 2), .ref (ad 3), .int (r 5), .int (r 6), .int (r 7), .ref (ad 4), .ref (ad 5), .ref (ad 6), .ref (ad 7), .ref (ad 8), .int (r 13), .int (r 14), .ref (ad 9), .ref (ad 10), .ref (ad 11), .ref (ad 12), .int (r 19), .int (r 20), .int (r 21), .ref (ad 13), .ref (ad 14), .ref (ad 15), .ref (ad 16), .int (r 26), .int (r 27), .int (r 28), .ref (ad 17), .ref (ad 18), .ref (ad 19)])
  else .inl (cI, zmL.getD o 0, .inl r)
theorem zm_0 {cI : ClassId} {ad : Nat → Nat} {r : Nat → Int32} : zm cI ad 0 r = .inr (9, [.int (r 0), .int (r 1), .ref (ad 1), .ref (ad 2), .ref (ad 3), .int (r 5), .int (r 6), .int (r 7), .ref (ad 4), .ref (ad 5), .ref (ad 6), .ref (ad 7), .ref (ad 8), .int (r 13), .int (r 14), .ref (ad 9), .ref (ad 10), .ref (ad 11), .ref (ad 12), .int (r 19), .int (r 20), .int (r 21), .ref (ad 13), .ref (ad 14), .ref (ad 15), .ref (ad 16), .int (r 26), .int (r 27), .int (r 28), .ref (ad 17), .ref (ad 18), .ref (ad 19)]) := rfl
theorem zm_a {cI : ClassId} {ad : Nat → Nat} {o n : Nat} {r : Nat → Int32} (h : o ≠ 0 ∧ zmL.getD o 0 = n) : zm cI ad o r = .inl (cI, n, .inl r) := by
  unfold zm
  rw [if_neg h.1, h.2]
