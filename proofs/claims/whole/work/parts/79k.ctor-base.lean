/-! ===== constructors: rows, and what the tables say of them ===== -/
theorem va_RA_int {s : State} {a b : ClassId} (h1 : va_RA s a .int) (h2 : va_RA s b .int) : a = b := by
  have e1 : s.vm.findClass ("[" ++ (FieldType.int).toString) = some a := h1
  have e2 : s.vm.findClass ("[" ++ (FieldType.int).toString) = some b := h2
  exact Option.some.inj (e1.symm.trans e2)
theorem va_RA_obj {s : State} {a b : ClassId} {C : String} (h1 : va_RA s a (.object C)) (h2 : va_RA s b (.object C)) : a = b := by
  obtain ⟨_, _, -, -, -, e1⟩ := h1
  obtain ⟨_, _, -, -, -, e2⟩ := h2
  exact Option.some.inj (e1.symm.trans e2)
/-- the nest's private constructors, and the array classes over Sheet and Person -/
def zNI (U : State) : Prop := (va_AO "LeastAsked$Sheet" U ∧ va_AO "LeastAsked$Person" U) ∧ va_Nw (.methodLinkNest RX4 25 yX2_init RX9) U ∧ va_Nw (.methodLinkNest RX9 29 yX8_init RX9) U ∧ va_Nw (.methodLinkNest RX9 36 yX3_init RX9) U ∧ va_Nw (.methodLinkNest RX9 43 yX1_init RX9) U ∧ va_Nw (.methodLinkNest RX9 50 yX5_init RX9) U ∧ va_Nw (.methodLinkNest RX9 57 yX0_init RX9) U ∧ va_Nw (.methodLinkNest RX9 72 yX6_init RX9) U
theorem zNI.aoX6 {U : State} (h : zNI U) : va_AO "LeastAsked$Sheet" U := h.1.1
theorem zNI.aoX2 {U : State} (h : zNI U) : va_AO "LeastAsked$Person" U := h.1.2
theorem zNI.nX4_25 {U : State} (h : zNI U) : va_Nw (.methodLinkNest RX4 25 yX2_init RX9) U := h.2.1
theorem zNI.nX9_29 {U : State} (h : zNI U) : va_Nw (.methodLinkNest RX9 29 yX8_init RX9) U := h.2.2.1
theorem zNI.nX9_36 {U : State} (h : zNI U) : va_Nw (.methodLinkNest RX9 36 yX3_init RX9) U := h.2.2.2.1
theorem zNI.nX9_43 {U : State} (h : zNI U) : va_Nw (.methodLinkNest RX9 43 yX1_init RX9) U := h.2.2.2.2.1
theorem zNI.nX9_50 {U : State} (h : zNI U) : va_Nw (.methodLinkNest RX9 50 yX5_init RX9) U := h.2.2.2.2.2.1
theorem zNI.nX9_57 {U : State} (h : zNI U) : va_Nw (.methodLinkNest RX9 57 yX0_init RX9) U := h.2.2.2.2.2.2.1
theorem zNI.nX9_72 {U : State} (h : zNI U) : va_Nw (.methodLinkNest RX9 72 yX6_init RX9) U := h.2.2.2.2.2.2.2
theorem zNI.same {u U : State} (h : u.vm = U.vm) (hA : u.vm.Alike U.vm) (q : zNI u) : zNI U := ⟨⟨q.1.1.moved hA, q.1.2.moved hA⟩, va_Nw.same rfl h q.nX4_25, va_Nw.same rfl h q.nX9_29, va_Nw.same rfl h q.nX9_36, va_Nw.same rfl h q.nX9_43, va_Nw.same rfl h q.nX9_50, va_Nw.same rfl h q.nX9_57, va_Nw.same rfl h q.nX9_72⟩
theorem zNI.warm {s U : State} (hW : s.WarmedH U.vm) (q : zNI s) : zNI U := ⟨⟨q.1.1.moved hW.alike, q.1.2.moved hW.alike⟩, va_Nw.warmM hW q.nX4_25, va_Nw.warmM hW q.nX9_29, va_Nw.warmM hW q.nX9_36, va_Nw.warmM hW q.nX9_43, va_Nw.warmM hW q.nX9_50, va_Nw.warmM hW q.nX9_57, va_Nw.warmM hW q.nX9_72⟩
/-- the start of a constructor: its cells ws, the heap's size, the classes -/
def zC (D : va_G) (tys : List (ClassId × FieldType)) (ws : va_W) (sz : Nat) (U : State) : Prop := U.heap.size = sz ∧ va_P D vwCl ws U.heap ∧ va_K D vwCl tys U ∧ va_D (fun _ => True) ws ∧ zNI U
theorem z_preC {D : va_G} {tys : List (ClassId × FieldType)} {A : Nat → Prop} {ws : va_W} {s : State} {H : Heap} {As : List Value} (hN : zNI s) (hK : va_K D vwCl tys s) (hP : va_P D vwCl ws H) (hD : va_D A ws) : PreS s H (va_Pc As (zC D tys ws H.size)) As :=
  ⟨fun a U g mk q => ⟨q.1, q.2.1, q.2.2.1, va_K.moved (u := U) (U := U.calling g mk a) (Vm.Alike.refl U.vm) q.2.2.2.1, q.2.2.2.2.1, zNI.same (u := U) rfl (Vm.Alike.refl U.vm) q.2.2.2.2.2⟩, fun U hU hW => ⟨rfl, by rw [hU], by rw [hU]; exact hP, va_K.moved hW.alike hK, hD.weaken (fun _ _ _ _ => trivial), zNI.warm hW hN⟩⟩
section ZNEW
variable {p : Program} {l : Launch} {e : Env} {R : Room} {s : State} {m : MethodId} {args : Array Value} {below : List Frame} {meth : Method} {c : Code} {H : Heap} {locs : List Loc} {cells slots : Nat} {Q : State → Prop}
variable {cc : ByteArray} {pc : Nat} {ls : Array Slot} {rest : List Value} {D : va_G} {tys : List (ClassId × FieldType)} {A : Nat → Prop} {H0 : Heap} {ws : va_W}
theorem z_newi (hexec : p.tables.exec = Jvm.exec) (hb : c.code = cc) (harr : (Cond.arrayClass .int).before args s = true) (hK : va_K D vwCl tys s) {cI : ClassId} (ht : tys[0]? = some (cI, .int)) (hP : va_P D vwCl ws H) (hD : va_D A ws) (hS : va_S A H0 H locs) (hA : ∀ q, H0.size ≤ q → A q) {n : Int32} {N' : Nat} (hn : ¬ n < 0) (hN : n.toNatClampNeg = N') (hbytes : N' * 4 ≤ 536870912) (hcells : cells + 1 ≤ R.cells) (hslots : slots + N' ≤ R.slots) (hdg : decode cc pc = .ok (.newarray .int, 2))
    (kk : ∀ (q : Nat) (H1 : Heap), va_P D vwCl (ws ++ [(q, .inl (cI, N', .inl (fun _ => 0)))]) H1 → va_D A (ws ++ [(q, .inl (cI, N', .inl (fun _ => 0)))]) → va_S A H0 H1 locs → W p l e R s m args below meth c H1 locs (cells + 1) (slots + N') Q (F0 m (pc + 2) ls (.ref q :: rest))) : W p l e R s m args below meth c H locs cells slots Q (F0 m pc ls (.int n :: rest)) :=
  va_newa (atype := .int) (ty := .int) (a0 := (N', .inl (fun _ => 0))) hexec hb harr rfl hK hP hD hS hA (fun _ => rfl) hn hN hbytes hcells hslots hdg (fun q cA H1 hK1 hP1 hD1 hS1 => by
    have e1 := (hK1.2 tys.length (cA, .int) (by simp)).2
    have e : cA = cI := va_RA_int e1 (hK.2 0 (cI, .int) ht).2
    subst e
    exact kk q H1 hP1 hD1 hS1)
theorem z_newo (t0 : Nat) (hexec : p.tables.exec = Jvm.exec) (hb : c.code = cc) {own C : String} {index : Nat} (hown : s.vm.findClass own = some m.cls) (hclink : (Cond.classLink own index C).before args s = true) (hover : va_AO C s) (hK : va_K D vwCl tys s) {cA : ClassId} (ht : tys[t0]? = some (cA, .object C)) (hP : va_P D vwCl ws H) (hD : va_D A ws) (hS : va_S A H0 H locs) (hA : ∀ q, H0.size ≤ q → A q) {n : Int32} {N' : Nat} (hn : ¬ n < 0) (hN : n.toNatClampNeg = N') (hbytes : N' * 4 ≤ 536870912) (hcells : cells + 1 ≤ R.cells) (hslots : slots + N' ≤ R.slots) (hdg : decode cc pc = .ok (.anewarray index, 3))
    (kk : ∀ (q : Nat) (H1 : Heap), va_P D vwCl (ws ++ [(q, .inl (cA, N', .inr (.inr (.inr (.inr (fun _ => none))))))]) H1 → va_D A (ws ++ [(q, .inl (cA, N', .inr (.inr (.inr (.inr (fun _ => none))))))]) → va_S A H0 H1 locs → W p l e R s m args below meth c H1 locs (cells + 1) (slots + N') Q (F0 m (pc + 3) ls (.ref q :: rest))) : W p l e R s m args below meth c H locs cells slots Q (F0 m pc ls (.int n :: rest)) :=
  va_newq hexec hb hown hclink hover hK hP hD hS hA hn hN hbytes hcells hslots hdg (fun q cB H1 hK1 hP1 hD1 hS1 => by
    have e1 := (hK1.2 tys.length (cB, .object C) (by simp)).2
    have e : cB = cA := va_RA_obj e1 (hK.2 t0 (cA, .object C) ht).2
    subst e
    exact kk q H1 hP1 hD1 hS1)
end ZNEW
/-- an array of references holds what its function says below its length -/
theorem va_at_fn {D : va_G} {q n : Nat} {cA : ClassId} {f g : Nat → Option Nat} {H : Heap} (h : va_at D vwCl (q, .inl (cA, n, .inr (.inr (.inr (.inr f))))) H) (e : ∀ j, j < n → f j = g j) : va_at D vwCl (q, .inl (cA, n, .inr (.inr (.inr (.inr g))))) H := by
  have h : H[q]? = some (arrV cA n (fun j => va_rf (f j))) := h
  show H[q]? = some (arrV cA n (fun j => va_rf (g j)))
  rw [h]
  unfold arrV
  rw [show (fun j : Fin n => va_rf (f j.val)) = fun j : Fin n => va_rf (g j.val) from funext fun j => by rw [e j.val j.isLt]]
