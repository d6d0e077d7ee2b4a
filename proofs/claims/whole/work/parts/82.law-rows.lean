/-! ===== the law: two worlds side by side ===== -/
def zA (ad : Nat → Nat) (M q : Nat) : Prop := ∃ o, o < M ∧ q = ad o
theorem zW_in {ct : Nat → (Nat → Int32) → va_E} {M : Nat} {ad : Nat → Nat} {σ : zMem} {k : Nat} {q : Nat × va_E} (h : (zW ct M ad σ)[k]? = some q) : zA ad M q.1 := by
  rcases Nat.lt_or_ge k M with hl | hl
  · rw [zW_at hl rfl] at h
    cases h
    exact ⟨k, hl, rfl⟩
  · rw [zW_out (by omega)] at h
    cases h
theorem zW_kept {D : va_G} {ct : Nat → (Nat → Int32) → va_E} {M : Nat} {ad : Nat → Nat} {σ : zMem} {H H1 : Heap} {B : Nat → Prop} (hP : va_P D vwCl (zW ct M ad σ) H) (hk : ∀ q : Nat, q < H.size → ¬ B q → H1[q]? = H[q]?) (hd : ∀ q, zA ad M q → ¬ B q) : va_P D vwCl (zW ct M ad σ) H1 := hP.kept (fun k q hq => hk q.1 (hP k q hq).lt (hd q.1 (zW_in hq)))
def lw_St (s : State) (D : va_G) (cI cS cP : ClassId) (ax am : Nat → Nat) (H : Heap) (locs : List Loc) (σx σm : zMem) : Prop := va_P D vwCl (zW (zx cI cS cP ax) 41 ax σx) H ∧ va_D (zA ax 41) (zW (zx cI cS cP ax) 41 ax σx) ∧ va_P D vwCl (zW (zm cI am) 20 am σm) H ∧ va_D (zA am 20) (zW (zm cI am) 20 am σm) ∧ va_S (fun q : Nat => s.heap.size ≤ q) s.heap H locs
def lw_Ax (s : State) (ax am : Nat → Nat) : Prop := (∀ q, zA ax 41 q → zA am 20 q → False) ∧ (∀ q, zA ax 41 q → s.heap.size ≤ q) ∧ ∀ q, zA am 20 q → s.heap.size ≤ q
def lw_Ctx (p : Program) (s : State) (m : MethodId) (c : Code) (b L : Nat) (xs : Nat → Int32) (D : va_G) (cI cS cP : ClassId) (ax am : Nat → Nat) : Prop := p.tables.exec = Jvm.exec ∧ c.code = cL_law ∧ c.maxLocals = 4 ∧ s.vm.findClass RL = some m.cls ∧ (∀ w ∈ wsL_law, w.before #[Value.ref b] s = true) ∧ va_X b L xs s s.heap ∧ b < s.heap.size ∧ va_K D vwCl (zty cI cS cP) s ∧ zN s ∧ lw_Ax s ax am
section LWROW
variable {p : Program} {l : Launch} {e : Env} {R : Room} {s : State} {m : MethodId} {args : Array Value} {below : List Frame} {meth : Method} {c : Code} {H : Heap} {locs : List Loc} {cells slots : Nat} {Q : State → Prop}
variable {pc : Nat} {ls : Array Slot} {rest st0 : List Value} {D : va_G} {cI cS cP : ClassId} {ax am : Nat → Nat} {σx σm σ' : zMem} {a : Array Value}
theorem lw_xi {r0 : Int32} (hr : va_Run p l e R s m args below meth c H locs cells slots 0 0 (F0 m pc ls st0) rest (va_Qi (fun r u => r = r0 ∧ u = σ') (zB (zx cI cS cP ax) 41 ax D (zty cI cS cP) (zA ax 41)) (zA ax 41) a) (zA ax 41)) (hA : lw_Ax s ax am) (hSt : lw_St s D cI cS cP ax am H locs σx σm)
    (kk : ∀ (H1 : Heap) (locs1 : List Loc), lw_St s D cI cS cP ax am H1 locs1 σ' σm → W p l e R s m args below meth c H1 locs1 cells slots Q (F0 m (pc + 3) ls (.int r0 :: rest))) : W p l e R s m args below meth c H locs cells slots Q (F0 m pc ls st0) :=
  va_calli hr hSt.2.2.2.2 (fun q _ h => hA.2.1 q h) hA.2.1 (fun r u t H1 locs1 ht hvm hp hB hz hk hS1 => by
    obtain ⟨rfl, rfl⟩ := hp
    obtain ⟨h1, h2, h3, -⟩ := hB
    rw [ht] at h1
    exact kk H1 locs1 ⟨h1, h3, zW_kept hSt.2.2.1 hk (fun q h z => hA.1 q z h), hSt.2.2.2.1, hS1⟩)
theorem lw_mi {r0 : Int32} (hr : va_Run p l e R s m args below meth c H locs cells slots 0 0 (F0 m pc ls st0) rest (va_Qi (fun r u => r = r0 ∧ u = σ') (zB (zm cI am) 20 am D (zty cI cS cP) (zA am 20)) (zA am 20) a) (zA am 20)) (hA : lw_Ax s ax am) (hSt : lw_St s D cI cS cP ax am H locs σx σm)
    (kk : ∀ (H1 : Heap) (locs1 : List Loc), lw_St s D cI cS cP ax am H1 locs1 σx σ' → W p l e R s m args below meth c H1 locs1 cells slots Q (F0 m (pc + 3) ls (.int r0 :: rest))) : W p l e R s m args below meth c H locs cells slots Q (F0 m pc ls st0) :=
  va_calli hr hSt.2.2.2.2 (fun q _ h => hA.2.2 q h) hA.2.2 (fun r u t H1 locs1 ht hvm hp hB hz hk hS1 => by
    obtain ⟨rfl, rfl⟩ := hp
    obtain ⟨h1, h2, h3, -⟩ := hB
    rw [ht] at h1
    exact kk H1 locs1 ⟨zW_kept hSt.1 hk (fun q h z => hA.1 q h z), hSt.2.1, h1, h3, hS1⟩)
theorem lw_xl {r0 : Int64} (hr : va_Run p l e R s m args below meth c H locs cells slots 0 0 (F0 m pc ls st0) rest (va_Ql (fun r u => r = r0 ∧ u = σ') (zB (zx cI cS cP ax) 41 ax D (zty cI cS cP) (zA ax 41)) (zA ax 41) a) (zA ax 41)) (hA : lw_Ax s ax am) (hSt : lw_St s D cI cS cP ax am H locs σx σm)
    (kk : ∀ (H1 : Heap) (locs1 : List Loc), lw_St s D cI cS cP ax am H1 locs1 σ' σm → W p l e R s m args below meth c H1 locs1 cells slots Q (F0 m (pc + 3) ls (.long r0 :: rest))) : W p l e R s m args below meth c H locs cells slots Q (F0 m pc ls st0) :=
  va_calll hr hSt.2.2.2.2 (fun q _ h => hA.2.1 q h) hA.2.1 (fun r u t H1 locs1 ht hvm hp hB hz hk hS1 => by
    obtain ⟨rfl, rfl⟩ := hp
    obtain ⟨h1, h2, h3, -⟩ := hB
    rw [ht] at h1
    exact kk H1 locs1 ⟨h1, h3, zW_kept hSt.2.2.1 hk (fun q h z => hA.1 q z h), hSt.2.2.2.1, hS1⟩)
theorem lw_ml {r0 : Int64} (hr : va_Run p l e R s m args below meth c H locs cells slots 0 0 (F0 m pc ls st0) rest (va_Ql (fun r u => r = r0 ∧ u = σ') (zB (zm cI am) 20 am D (zty cI cS cP) (zA am 20)) (zA am 20) a) (zA am 20)) (hA : lw_Ax s ax am) (hSt : lw_St s D cI cS cP ax am H locs σx σm)
    (kk : ∀ (H1 : Heap) (locs1 : List Loc), lw_St s D cI cS cP ax am H1 locs1 σx σ' → W p l e R s m args below meth c H1 locs1 cells slots Q (F0 m (pc + 3) ls (.long r0 :: rest))) : W p l e R s m args below meth c H locs cells slots Q (F0 m pc ls st0) :=
  va_calll hr hSt.2.2.2.2 (fun q _ h => hA.2.2 q h) hA.2.2 (fun r u t H1 locs1 ht hvm hp hB hz hk hS1 => by
    obtain ⟨rfl, rfl⟩ := hp
    obtain ⟨h1, h2, h3, -⟩ := hB
    rw [ht] at h1
    exact kk H1 locs1 ⟨zW_kept hSt.1 hk (fun q h z => hA.1 q h z), hSt.2.1, h1, h3, hS1⟩)
end LWROW
theorem lw_in {t L : Nat} {j : Int32} (k : Nat) (hj : j = nI k) (h : 6 * t + k < L) (hL : L ≤ 3072) : vp_in (nI (6 * t) + j) L := by
  rw [hj, nI_add]
  exact vp_in_nI h (by omega)
