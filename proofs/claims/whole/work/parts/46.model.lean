/-! ===== contracts: X10_fault, X10_many ===== -/
theorem kX10_fault_f67 : Cond.fieldLink RX10 67 "LeastAskedModel" "fault" "I" ∈ wsX10_fault := by decide +kernel
theorem iX10_fault_X10 : ∀ w ∈ u_ws RX10 TX10 32, w ∈ wsX10_fault := fun _ h => List.mem_cons_of_mem _ (List.mem_append_right _ h)
set_option maxHeartbeats 4000000 in
set_option maxRecDepth 100000 in
theorem CX10_fault (l : Launch) (D : va_G) (cI cS cP : ClassId) (ad : Nat → Nat) (A : Nat → Prop) (n : Nat) (σ σ' : zMem) (r0 : Int32) (hF : FX10_fault n σ = some (r0, σ')) : Met l yX10_fault wsX10_fault ({ frames := 0, cells := 0, slots := 0, locals := 0 } : Room) (va_Pc [.ref (ad 0)] (zB (zm cI ad) 20 ad D (zty cI cS cP) A σ)) (va_Qi (fun r u => r = r0 ∧ u = σ') (zB (zm cI ad) 20 ad D (zty cI cS cP) A) A) 0 0 A := by
  refine Met.ofW (cc := cX10_fault) (maxL := 1) (ret := (some .int)) (by decide) rfl ?_
  intro p e s m args below meth c s₁ B hml hv
  obtain ⟨rfl, hP, hK, hD, hN⟩ := hv
  have hx := B.exec
  have hb := B.bytes
  have hr := B.returns
  have hts := atoms_spec (ws := wsX10_fault) B.pre
  have hown : s.vm.findClass RX10 = some m.cls := findClass_of_methodNamed B.named
  have hlocks := B.notSynchronized
  have hS : va_S A s.heap s.heap [] := va_S.rf
  have hl := lv_entry ([.ref (ad 0)]) (n := 1) (Nat.le_of_ble_eq_true rfl)
  rw [lg_entry_eq]
  generalize (lg_sl ([.ref (ad 0)]) ++ List.replicate (1 - (lg_sl ([.ref (ad 0)])).length) Slot.unset).toArray = ls at hl ⊢
  have hl : lv_has ls 1 [(0, .ref (ad 0))] := hl
  clear B
  unfold FX10_fault at hF
  refine lv_aload_n hx hb dX10_fault_0 rfl (lv_at hl 0 rfl) ?_
  refine z_get (ci := 9) (C := RX10) (T := TX10) (N := 32) hx hb hts iX10_fault_X10 hown hK hP (by decide) zm_0 rfl 0 (by decide) kX10_fault_f67 rfl (v := .int (σ 0 0)) rfl dX10_fault_1 ?_
  exact z_iret hx hb hr hlocks hN hK hP hD hS hF dX10_fault_4
theorem kX10_many_f77 : Cond.fieldLink RX10 77 "LeastAskedModel" "people" "I" ∈ wsX10_many := by decide +kernel
theorem kX10_many_f107 : Cond.fieldLink RX10 107 "LeastAskedModel" "questions" "I" ∈ wsX10_many := by decide +kernel
theorem kX10_many_f110 : Cond.fieldLink RX10 110 "LeastAskedModel" "allBrought" "I" ∈ wsX10_many := by decide +kernel
theorem kX10_many_f113 : Cond.fieldLink RX10 113 "LeastAskedModel" "readings" "I" ∈ wsX10_many := by decide +kernel
theorem iX10_many_X10 : ∀ w ∈ u_ws RX10 TX10 32, w ∈ wsX10_many := fun _ h => List.mem_cons_of_mem _ (List.mem_append_right _ h)
set_option maxHeartbeats 4000000 in
set_option maxRecDepth 100000 in
theorem CX10_many (l : Launch) (D : va_G) (cI cS cP : ClassId) (ad : Nat → Nat) (A : Nat → Prop) (n : Nat) (σ σ' : zMem) (r0 : Int32) (p1 : Int32) (hF : FX10_many n σ p1 = some (r0, σ')) : Met l yX10_many wsX10_many ({ frames := 0, cells := 0, slots := 0, locals := 0 } : Room) (va_Pc [.ref (ad 0), .int p1] (zB (zm cI ad) 20 ad D (zty cI cS cP) A σ)) (va_Qi (fun r u => r = r0 ∧ u = σ') (zB (zm cI ad) 20 ad D (zty cI cS cP) A) A) 0 0 A := by
  refine Met.ofW (cc := cX10_many) (maxL := 2) (ret := (some .int)) (by decide) rfl ?_
  intro p e s m args below meth c s₁ B hml hv
  obtain ⟨rfl, hP, hK, hD, hN⟩ := hv
  have hx := B.exec
  have hb := B.bytes
  have hr := B.returns
  have hts := atoms_spec (ws := wsX10_many) B.pre
  have hown : s.vm.findClass RX10 = some m.cls := findClass_of_methodNamed B.named
  have hlocks := B.notSynchronized
  have hS : va_S A s.heap s.heap [] := va_S.rf
  have hl := lv_entry ([.ref (ad 0), .int p1]) (n := 2) (Nat.le_of_ble_eq_true rfl)
  rw [lg_entry_eq]
  generalize (lg_sl ([.ref (ad 0), .int p1]) ++ List.replicate (2 - (lg_sl ([.ref (ad 0), .int p1])).length) Slot.unset).toArray = ls at hl ⊢
  have hl : lv_has ls 2 [(0, .ref (ad 0)), (1, .int p1)] := hl
  clear B
  unfold FX10_many at hF
  refine lv_iload_n hx hb dX10_many_0 rfl (lv_at hl 1 rfl) ?_
  by_cases b1 : p1 = (0 : Int32)
  · have hF := zif_t b1 hF
    refine lv_tableIn (tgt := 32) hx hb dX10_many_1 (by rw [b1]; decide) (by rw [b1]; decide) (by rw [b1]; rfl) (by decide) ?_
    refine lv_aload_n hx hb dX10_many_32 rfl (lv_at hl 0 rfl) ?_
    refine z_get (ci := 9) (C := RX10) (T := TX10) (N := 32) hx hb hts iX10_many_X10 hown hK hP (by decide) zm_0 rfl 5 (by decide) kX10_many_f77 rfl (v := .int (σ 0 5)) rfl dX10_many_33 ?_
    exact z_iret hx hb hr hlocks hN hK hP hD hS hF dX10_many_36
  · have hF := zif_f b1 hF
    by_cases b2 : p1 = (1 : Int32)
    · have hF := zif_t b2 hF
      refine lv_tableIn (tgt := 37) hx hb dX10_many_1 (by rw [b2]; decide) (by rw [b2]; decide) (by rw [b2]; rfl) (by decide) ?_
      refine lv_aload_n hx hb dX10_many_37 rfl (lv_at hl 0 rfl) ?_
      refine z_get (ci := 9) (C := RX10) (T := TX10) (N := 32) hx hb hts iX10_many_X10 hown hK hP (by decide) zm_0 rfl 6 (by decide) kX10_many_f107 rfl (v := .int (σ 0 6)) rfl dX10_many_38 ?_
      exact z_iret hx hb hr hlocks hN hK hP hD hS hF dX10_many_41
    · have hF := zif_f b2 hF
      by_cases b3 : p1 = (2 : Int32)
      · have hF := zif_t b3 hF
        refine lv_tableIn (tgt := 42) hx hb dX10_many_1 (by rw [b3]; decide) (by rw [b3]; decide) (by rw [b3]; rfl) (by decide) ?_
        refine lv_aload_n hx hb dX10_many_42 rfl (lv_at hl 0 rfl) ?_
        refine z_get (ci := 9) (C := RX10) (T := TX10) (N := 32) hx hb hts iX10_many_X10 hown hK hP (by decide) zm_0 rfl 7 (by decide) kX10_many_f110 rfl (v := .int (σ 0 7)) rfl dX10_many_43 ?_
        exact z_iret hx hb hr hlocks hN hK hP hD hS hF dX10_many_46
      · have hF := zif_f b3 hF
        by_cases b4 : p1 = (3 : Int32)
        · have hF := zif_t b4 hF
          refine lv_tableIn (tgt := 47) hx hb dX10_many_1 (by rw [b4]; decide) (by rw [b4]; decide) (by rw [b4]; rfl) (by decide) ?_
          refine lv_aload_n hx hb dX10_many_47 rfl (lv_at hl 0 rfl) ?_
          refine z_get (ci := 9) (C := RX10) (T := TX10) (N := 32) hx hb hts iX10_many_X10 hown hK hP (by decide) zm_0 rfl 28 (by decide) kX10_many_f113 rfl (v := .int (σ 0 28)) rfl dX10_many_48 ?_
          exact z_iret hx hb hr hlocks hN hK hP hD hS hF dX10_many_51
        · have hF := zif_f b4 hF
          refine lv_tableOut (tgt := 52) hx hb dX10_many_1 (by have nb1 := lv_neT b1 (a := 0) (by decide); have nb2 := lv_neT b2 (a := 1) (by decide); have nb3 := lv_neT b3 (a := 2) (by decide); have nb4 := lv_neT b4 (a := 3) (by decide); omega) (by decide) ?_
          refine lv_bipush (v := (-2 : Int32)) hx hb dX10_many_52 (by decide) ?_
          exact z_iret hx hb hr hlocks hN hK hP hD hS hF dX10_many_54
