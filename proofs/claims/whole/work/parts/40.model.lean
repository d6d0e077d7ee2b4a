/-! ===== contracts: X10_fails, X10_lost, X10_within, X10_isSheet, X10_isSort, X10_against, X10_isPerson, X10_isMatter, X10_isOf, X10_digit, X10_isSign, X10_readPerson, X10_readProvince, X10_takeProvince ===== -/
theorem kX10_fails_f67 : Cond.fieldLink RX10 67 "LeastAskedModel" "fault" "I" ∈ wsX10_fails := by decide +kernel
theorem iX10_fails_X10 : ∀ w ∈ u_ws RX10 TX10 32, w ∈ wsX10_fails := fun _ h => List.mem_cons_of_mem _ (List.mem_append_right _ h)
set_option maxHeartbeats 4000000 in
set_option maxRecDepth 100000 in
theorem CX10_fails (l : Launch) (D : va_G) (cI cS cP : ClassId) (ad : Nat → Nat) (A : Nat → Prop) (n : Nat) (σ σ' : zMem) (r0 : Int32) (p1 : Int32) (hF : FX10_fails n σ p1 = some (r0, σ')) : Met l yX10_fails wsX10_fails ({ frames := 0, cells := 0, slots := 0, locals := 0 } : Room) (va_Pc [.ref (ad 0), .int p1] (zB (zm cI ad) 20 ad D (zty cI cS cP) A σ)) (va_Qi (fun r u => r = r0 ∧ u = σ') (zB (zm cI ad) 20 ad D (zty cI cS cP) A) A) 0 0 A := by
  refine Met.ofW (cc := cX10_fails) (maxL := 2) (ret := (some .int)) (by decide) rfl ?_
  intro p e s m args below meth c s₁ B hml hv
  obtain ⟨rfl, hP, hK, hD, hN⟩ := hv
  have hx := B.exec
  have hb := B.bytes
  have hr := B.returns
  have hts := atoms_spec (ws := wsX10_fails) B.pre
  have hown : s.vm.findClass RX10 = some m.cls := findClass_of_methodNamed B.named
  have hlocks := B.notSynchronized
  have hS : va_S A s.heap s.heap [] := va_S.rf
  have hl := lv_entry ([.ref (ad 0), .int p1]) (n := 2) (Nat.le_of_ble_eq_true rfl)
  rw [lg_entry_eq]
  generalize (lg_sl ([.ref (ad 0), .int p1]) ++ List.replicate (2 - (lg_sl ([.ref (ad 0), .int p1])).length) Slot.unset).toArray = ls at hl ⊢
  have hl : lv_has ls 2 [(0, .ref (ad 0)), (1, .int p1)] := hl
  clear B
  unfold FX10_fails at hF
  refine lv_aload_n hx hb dX10_fails_0 rfl (lv_at hl 0 rfl) ?_
  refine lv_iload_n hx hb dX10_fails_1 rfl (lv_at hl 1 rfl) ?_
  obtain ⟨σ1, eσ1, hF⟩ := zlet_inv hF
  refine z_put (ci := 9) (C := RX10) (T := TX10) (N := 32) hx hb hts iX10_fails_X10 tyX10 tyX10_ok nmX10 hown hK hP hD hS (by decide) zm_0 rfl 0 (by decide) kX10_fails_f67 rfl rfl rfl rfl (Nat.le_of_ble_eq_true rfl) zm_0 dX10_fails_2 (fun H locs hP hD hS => ?_)
  have hP : va_P D vwCl (zW (zm cI ad) 20 ad σ1) H := by rw [eσ1]; exact hP
  have hD : va_D A (zW (zm cI ad) 20 ad σ1) := by rw [eσ1]; exact hD
  refine lv_bipush (v := (-10 : Int32)) hx hb dX10_fails_5 (by decide) ?_
  refine lv_iload_n hx hb dX10_fails_7 rfl (lv_at hl 1 rfl) ?_
  refine lv_isub hx hb dX10_fails_8 ?_
  exact z_iret hx hb hr hlocks hN hK hP hD hS hF dX10_fails_9
theorem kX10_lost_f67 : Cond.fieldLink RX10 67 "LeastAskedModel" "fault" "I" ∈ wsX10_lost := by decide +kernel
theorem kX10_lost_L71 : Cond.constantLong RX10 71 (-9223372036854775808) ∈ wsX10_lost := by decide +kernel
theorem iX10_lost_X10 : ∀ w ∈ u_ws RX10 TX10 32, w ∈ wsX10_lost := fun _ h => List.mem_cons_of_mem _ (List.mem_append_right _ h)
set_option maxHeartbeats 4000000 in
set_option maxRecDepth 100000 in
theorem CX10_lost (l : Launch) (D : va_G) (cI cS cP : ClassId) (ad : Nat → Nat) (A : Nat → Prop) (n : Nat) (σ σ' : zMem) (r0 : Int64) (p1 : Int32) (hF : FX10_lost n σ p1 = some (r0, σ')) : Met l yX10_lost wsX10_lost ({ frames := 0, cells := 0, slots := 0, locals := 0 } : Room) (va_Pc [.ref (ad 0), .int p1] (zB (zm cI ad) 20 ad D (zty cI cS cP) A σ)) (va_Ql (fun r u => r = r0 ∧ u = σ') (zB (zm cI ad) 20 ad D (zty cI cS cP) A) A) 0 0 A := by
  refine Met.ofW (cc := cX10_lost) (maxL := 2) (ret := (some .long)) (by decide) rfl ?_
  intro p e s m args below meth c s₁ B hml hv
  obtain ⟨rfl, hP, hK, hD, hN⟩ := hv
  have hx := B.exec
  have hb := B.bytes
  have hr := B.returns
  have hts := atoms_spec (ws := wsX10_lost) B.pre
  have hown : s.vm.findClass RX10 = some m.cls := findClass_of_methodNamed B.named
  have hlocks := B.notSynchronized
  have hS : va_S A s.heap s.heap [] := va_S.rf
  have hl := lv_entry ([.ref (ad 0), .int p1]) (n := 2) (Nat.le_of_ble_eq_true rfl)
  rw [lg_entry_eq]
  generalize (lg_sl ([.ref (ad 0), .int p1]) ++ List.replicate (2 - (lg_sl ([.ref (ad 0), .int p1])).length) Slot.unset).toArray = ls at hl ⊢
  have hl : lv_has ls 2 [(0, .ref (ad 0)), (1, .int p1)] := hl
  clear B
  unfold FX10_lost at hF
  refine lv_aload_n hx hb dX10_lost_0 rfl (lv_at hl 0 rfl) ?_
  refine lv_iload_n hx hb dX10_lost_1 rfl (lv_at hl 1 rfl) ?_
  obtain ⟨σ1, eσ1, hF⟩ := zlet_inv hF
  refine z_put (ci := 9) (C := RX10) (T := TX10) (N := 32) hx hb hts iX10_lost_X10 tyX10 tyX10_ok nmX10 hown hK hP hD hS (by decide) zm_0 rfl 0 (by decide) kX10_lost_f67 rfl rfl rfl rfl (Nat.le_of_ble_eq_true rfl) zm_0 dX10_lost_2 (fun H locs hP hD hS => ?_)
  have hP : va_P D vwCl (zW (zm cI ad) 20 ad σ1) H := by rw [eσ1]; exact hP
  have hD : va_D A (zW (zm cI ad) 20 ad σ1) := by rw [eσ1]; exact hD
  refine lv_ldc2 (v := (-9223372036854775808 : Int64)) hx hb hown (hts _ kX10_lost_L71) dX10_lost_5 ?_
  exact z_lret hx hb hr hlocks hN hK hP hD hS hF dX10_lost_8
set_option maxHeartbeats 4000000 in
set_option maxRecDepth 100000 in
theorem CX10_within (l : Launch) (D : va_G) (cI cS cP : ClassId) (ad : Nat → Nat) (A : Nat → Prop) (n : Nat) (σ σ' : zMem) (r0 : Int32) (p1 : Int32) (p2 : Int32) (p3 : Int32) (hF : FX10_within n σ p1 p2 p3 = some (r0, σ')) : Met l yX10_within wsX10_within ({ frames := 0, cells := 0, slots := 0, locals := 0 } : Room) (va_Pc [.int p1, .int p2, .int p3] (zB (zm cI ad) 20 ad D (zty cI cS cP) A σ)) (va_Qi (fun r u => r = r0 ∧ u = σ') (zB (zm cI ad) 20 ad D (zty cI cS cP) A) A) 0 0 A := by
  refine Met.ofW (cc := cX10_within) (maxL := 3) (ret := (some .boolean)) (by decide) rfl ?_
  intro p e s m args below meth c s₁ B hml hv
  obtain ⟨rfl, hP, hK, hD, hN⟩ := hv
  have hx := B.exec
  have hb := B.bytes
  have hr := B.returns
  have hts := atoms_spec (ws := wsX10_within) B.pre
  have hown : s.vm.findClass RX10 = some m.cls := findClass_of_methodNamed B.named
  have hlocks := B.notSynchronized
  have hS : va_S A s.heap s.heap [] := va_S.rf
  have hl := lv_entry ([.int p1, .int p2, .int p3]) (n := 3) (Nat.le_of_ble_eq_true rfl)
  rw [lg_entry_eq]
  generalize (lg_sl ([.int p1, .int p2, .int p3]) ++ List.replicate (3 - (lg_sl ([.int p1, .int p2, .int p3])).length) Slot.unset).toArray = ls at hl ⊢
  have hl : lv_has ls 3 [(0, .int p1), (1, .int p2), (2, .int p3)] := hl
  clear B
  unfold FX10_within at hF
  refine lv_iload_n hx hb dX10_within_0 rfl (lv_at hl 0 rfl) ?_
  refine lv_iload_n hx hb dX10_within_1 rfl (lv_at hl 1 rfl) ?_
  refine lv_icmp_lt (tgt := 14) hx hb dX10_within_2 (by decide) (fun b1 => ?_) (fun b1 => ?_)
  · have hF := zif_t b1 hF
    refine lv_iconst (v := (0 : Int32)) hx hb dX10_within_14 (by decide) ?_
    exact z_zret hx hb hr hlocks (Or.inl rfl) hN hK hP hD hS hF dX10_within_15
  · have hF := zif_f b1 hF
    refine lv_iload_n hx hb dX10_within_5 rfl (lv_at hl 0 rfl) ?_
    refine lv_iload_n hx hb dX10_within_6 rfl (lv_at hl 2 rfl) ?_
    refine lv_icmp_gt (tgt := 14) hx hb dX10_within_7 (by decide) (fun b2 => ?_) (fun b2 => ?_)
    · have hF := zif_t b2 hF
      refine lv_iconst (v := (0 : Int32)) hx hb dX10_within_14 (by decide) ?_
      exact z_zret hx hb hr hlocks (Or.inl rfl) hN hK hP hD hS hF dX10_within_15
    · have hF := zif_f b2 hF
      refine lv_iconst (v := (1 : Int32)) hx hb dX10_within_10 (by decide) ?_
      refine lv_goto (tgt := 15) hx hb dX10_within_11 (by decide) ?_
      exact z_zret hx hb hr hlocks (Or.inr rfl) hN hK hP hD hS hF dX10_within_15
set_option maxHeartbeats 4000000 in
set_option maxRecDepth 100000 in
theorem CX10_isSheet (l : Launch) (D : va_G) (cI cS cP : ClassId) (ad : Nat → Nat) (A : Nat → Prop) (n : Nat) (σ σ' : zMem) (r0 : Int32) (p1 : Int32) (hF : FX10_isSheet n σ p1 = some (r0, σ')) : Met l yX10_isSheet wsX10_isSheet ({ frames := 1, cells := 0, slots := 0, locals := 22 } : Room) (va_Pc [.int p1] (zB (zm cI ad) 20 ad D (zty cI cS cP) A σ)) (va_Qi (fun r u => r = r0 ∧ u = σ') (zB (zm cI ad) 20 ad D (zty cI cS cP) A) A) 0 0 A := by
  refine Met.ofW (cc := cX10_isSheet) (maxL := 1) (ret := (some .boolean)) (by decide) rfl ?_
  intro p e s m args below meth c s₁ B hml hv
  obtain ⟨rfl, hP, hK, hD, hN⟩ := hv
  have hx := B.exec
  have hb := B.bytes
  have hr := B.returns
  have hts := atoms_spec (ws := wsX10_isSheet) B.pre
  have hown : s.vm.findClass RX10 = some m.cls := findClass_of_methodNamed B.named
  have hlocks := B.notSynchronized
  have hS : va_S A s.heap s.heap [] := va_S.rf
  have hl := lv_entry ([.int p1]) (n := 1) (Nat.le_of_ble_eq_true rfl)
  rw [lg_entry_eq]
  generalize (lg_sl ([.int p1]) ++ List.replicate (1 - (lg_sl ([.int p1])).length) Slot.unset).toArray = ls at hl ⊢
  have hl : lv_has ls 1 [(0, .int p1)] := hl
  clear B
  unfold FX10_isSheet at hF
  refine lv_iload_n hx hb dX10_isSheet_0 rfl (lv_at hl 0 rfl) ?_
  refine lv_iconst (v := (0 : Int32)) hx hb dX10_isSheet_1 (by decide) ?_
  refine lv_iconst (v := (3 : Int32)) hx hb dX10_isSheet_2 (by decide) ?_
  obtain ⟨r2, σ1, hC3, hF⟩ := zbd_inv hF
  refine z_calli (va_runS (As := [.int p1, .int (0 : Int32), .int (3 : Int32)]) (rest := []) ⟨hx, hb, hml, hown, hts⟩ (CX10_within l D cI cS cP ad A n σ σ1 r2 p1 (0 : Int32) (3 : Int32) hC3) (va_cwS 3 hts gX10_isSheet_X10_within rfl rfl rfl (by decide +kernel) ⟨Nat.le_of_ble_eq_true rfl, Nat.le_of_ble_eq_true rfl⟩) (z_preS hN hK hP hD) rfl rfl hl.1 rfl (lv_room (Nat.le_of_ble_eq_true rfl)) dX10_isSheet_3 ⟨Nat.zero_le _, Nat.zero_le _⟩) hS (fun H locs hP hD hS => ?_)
  obtain ⟨g4, hF⟩ := zgd_inv hF
  exact z_zret hx hb hr hlocks g4 hN hK hP hD hS hF dX10_isSheet_6
set_option maxHeartbeats 4000000 in
set_option maxRecDepth 100000 in
theorem CX10_isSort (l : Launch) (D : va_G) (cI cS cP : ClassId) (ad : Nat → Nat) (A : Nat → Prop) (n : Nat) (σ σ' : zMem) (r0 : Int32) (p1 : Int32) (hF : FX10_isSort n σ p1 = some (r0, σ')) : Met l yX10_isSort wsX10_isSort ({ frames := 1, cells := 0, slots := 0, locals := 22 } : Room) (va_Pc [.int p1] (zB (zm cI ad) 20 ad D (zty cI cS cP) A σ)) (va_Qi (fun r u => r = r0 ∧ u = σ') (zB (zm cI ad) 20 ad D (zty cI cS cP) A) A) 0 0 A := by
  refine Met.ofW (cc := cX10_isSort) (maxL := 1) (ret := (some .boolean)) (by decide) rfl ?_
  intro p e s m args below meth c s₁ B hml hv
  obtain ⟨rfl, hP, hK, hD, hN⟩ := hv
  have hx := B.exec
  have hb := B.bytes
  have hr := B.returns
  have hts := atoms_spec (ws := wsX10_isSort) B.pre
  have hown : s.vm.findClass RX10 = some m.cls := findClass_of_methodNamed B.named
  have hlocks := B.notSynchronized
  have hS : va_S A s.heap s.heap [] := va_S.rf
  have hl := lv_entry ([.int p1]) (n := 1) (Nat.le_of_ble_eq_true rfl)
  rw [lg_entry_eq]
  generalize (lg_sl ([.int p1]) ++ List.replicate (1 - (lg_sl ([.int p1])).length) Slot.unset).toArray = ls at hl ⊢
  have hl : lv_has ls 1 [(0, .int p1)] := hl
  clear B
  unfold FX10_isSort at hF
  refine lv_iload_n hx hb dX10_isSort_0 rfl (lv_at hl 0 rfl) ?_
  refine lv_iconst (v := (0 : Int32)) hx hb dX10_isSort_1 (by decide) ?_
  refine lv_iconst (v := (2 : Int32)) hx hb dX10_isSort_2 (by decide) ?_
  obtain ⟨r2, σ1, hC3, hF⟩ := zbd_inv hF
  refine z_calli (va_runS (As := [.int p1, .int (0 : Int32), .int (2 : Int32)]) (rest := []) ⟨hx, hb, hml, hown, hts⟩ (CX10_within l D cI cS cP ad A n σ σ1 r2 p1 (0 : Int32) (2 : Int32) hC3) (va_cwS 3 hts gX10_isSort_X10_within rfl rfl rfl (by decide +kernel) ⟨Nat.le_of_ble_eq_true rfl, Nat.le_of_ble_eq_true rfl⟩) (z_preS hN hK hP hD) rfl rfl hl.1 rfl (lv_room (Nat.le_of_ble_eq_true rfl)) dX10_isSort_3 ⟨Nat.zero_le _, Nat.zero_le _⟩) hS (fun H locs hP hD hS => ?_)
  obtain ⟨g4, hF⟩ := zgd_inv hF
  exact z_zret hx hb hr hlocks g4 hN hK hP hD hS hF dX10_isSort_6
theorem kX10_against_f9 : Cond.fieldLink RX10 9 "LeastAskedModel" "sorts" "[I" ∈ wsX10_against := by decide +kernel
theorem kX10_against_f13 : Cond.fieldLink RX10 13 "LeastAskedModel" "sheetLong" "[I" ∈ wsX10_against := by decide +kernel
theorem iX10_against_X10 : ∀ w ∈ u_ws RX10 TX10 32, w ∈ wsX10_against := fun _ h => List.mem_cons_of_mem _ (List.mem_append_right _ h)
set_option maxHeartbeats 4000000 in
set_option maxRecDepth 100000 in
theorem CX10_against (l : Launch) (D : va_G) (cI cS cP : ClassId) (ad : Nat → Nat) (A : Nat → Prop) (n : Nat) (σ σ' : zMem) (r0 : Int32) (p1 : Int32) (p2 : Int32) (p3 : Int32) (p4 : Int32) (hF : FX10_against n σ p1 p2 p3 p4 = some (r0, σ')) : Met l yX10_against wsX10_against ({ frames := 0, cells := 0, slots := 0, locals := 0 } : Room) (va_Pc [.ref (ad 0), .int p1, .int p2, .int p3, .int p4] (zB (zm cI ad) 20 ad D (zty cI cS cP) A σ)) (va_Qi (fun r u => r = r0 ∧ u = σ') (zB (zm cI ad) 20 ad D (zty cI cS cP) A) A) 0 0 A := by
  refine Met.ofW (cc := cX10_against) (maxL := 5) (ret := (some .int)) (by decide) rfl ?_
  intro p e s m args below meth c s₁ B hml hv
  obtain ⟨rfl, hP, hK, hD, hN⟩ := hv
  have hx := B.exec
  have hb := B.bytes
  have hr := B.returns
  have hts := atoms_spec (ws := wsX10_against) B.pre
  have hown : s.vm.findClass RX10 = some m.cls := findClass_of_methodNamed B.named
  have hlocks := B.notSynchronized
  have hS : va_S A s.heap s.heap [] := va_S.rf
  have hl := lv_entry ([.ref (ad 0), .int p1, .int p2, .int p3, .int p4]) (n := 5) (Nat.le_of_ble_eq_true rfl)
  rw [lg_entry_eq]
  generalize (lg_sl ([.ref (ad 0), .int p1, .int p2, .int p3, .int p4]) ++ List.replicate (5 - (lg_sl ([.ref (ad 0), .int p1, .int p2, .int p3, .int p4])).length) Slot.unset).toArray = ls at hl ⊢
  have hl : lv_has ls 5 [(0, .ref (ad 0)), (1, .int p1), (2, .int p2), (3, .int p3), (4, .int p4)] := hl
  clear B
  have hB70 : ∀ (σ : zMem) (l1 : Int32) (l2 : Int32) (l3 : Int32) (l4 : Int32), ∀ (H : Heap) (locs : List Loc) (ls : Array Slot), BX10_against_70 n σ l1 l2 l3 l4 = some (r0, σ') → va_P D vwCl (zW (zm cI ad) 20 ad σ) H → va_D A (zW (zm cI ad) 20 ad σ) → va_S A s.heap H locs → lv_has ls 5 [(0, .ref (ad 0)), (1, .int l1), (2, .int l2), (3, .int l3), (4, .int l4)] → W p l e (headSpec wsX10_against ({ frames := 0, cells := 0, slots := 0, locals := 0 } : Room)).room s m ([.ref (ad 0), .int p1, .int p2, .int p3, .int p4] : List Value).toArray below meth c H locs 0 0 (MQ below (va_Qi (fun r u => r = r0 ∧ u = σ') (zB (zm cI ad) 20 ad D (zty cI cS cP) A) A) ([.ref (ad 0), .int p1, .int p2, .int p3, .int p4] : List Value).toArray s 0 0 A) (F0 m 70 ls []) := by
    intro σ l1 l2 l3 l4 H locs ls hF hP hD hS hl
    unfold BX10_against_70 at hF
    refine lv_iconst (v := (3 : Int32)) hx hb dX10_against_70 (by decide) ?_
    refine lv_goto (tgt := 75) hx hb dX10_against_71 (by decide) ?_
    exact z_iret hx hb hr hlocks hN hK hP hD hS hF dX10_against_75
  have hB23 : ∀ (σ : zMem) (l1 : Int32) (l2 : Int32) (l3 : Int32) (l4 : Int32), ∀ (H : Heap) (locs : List Loc) (ls : Array Slot), BX10_against_23 n σ l1 l2 l3 l4 = some (r0, σ') → va_P D vwCl (zW (zm cI ad) 20 ad σ) H → va_D A (zW (zm cI ad) 20 ad σ) → va_S A s.heap H locs → lv_has ls 5 [(0, .ref (ad 0)), (1, .int l1), (2, .int l2), (3, .int l3), (4, .int l4)] → W p l e (headSpec wsX10_against ({ frames := 0, cells := 0, slots := 0, locals := 0 } : Room)).room s m ([.ref (ad 0), .int p1, .int p2, .int p3, .int p4] : List Value).toArray below meth c H locs 0 0 (MQ below (va_Qi (fun r u => r = r0 ∧ u = σ') (zB (zm cI ad) 20 ad D (zty cI cS cP) A) A) ([.ref (ad 0), .int p1, .int p2, .int p3, .int p4] : List Value).toArray s 0 0 A) (F0 m 23 ls []) := by
    intro σ l1 l2 l3 l4 H locs ls hF hP hD hS hl
    unfold BX10_against_23 at hF
    refine lv_aload_n hx hb dX10_against_23 rfl (lv_at hl 0 rfl) ?_
    refine z_get (ci := 9) (C := RX10) (T := TX10) (N := 32) hx hb hts iX10_against_X10 hown hK hP (by decide) zm_0 rfl 2 (by decide) kX10_against_f9 rfl (v := .ref (ad 1)) rfl dX10_against_24 ?_
    refine lv_iload_n hx hb dX10_against_27 rfl (lv_at hl 1 rfl) ?_
    obtain ⟨g1, hF⟩ := zgd_inv hF
    refine z_iald hx hb hK hP (by decide) (zm_a (n := 4) (by decide)) rfl g1 dX10_against_28 ?_
    refine lv_bipush (v := (-9 : Int32)) hx hb dX10_against_29 (by decide) ?_
    refine lv_icmp_ne (tgt := 36) hx hb dX10_against_31 (by decide) (fun b2 => ?_) (fun b2 => ?_)
    · have hF := zif_f b2 hF
      refine lv_iload hx hb dX10_against_36 (lv_at hl 4 rfl) ?_
      refine lv_if_ge (tgt := 43) hx hb dX10_against_38 (by decide) (fun b3 => ?_) (fun b3 => ?_)
      · have hF := zif_t b3 hF
        refine lv_iload_n hx hb dX10_against_43 rfl (lv_at hl 3 rfl) ?_
        refine lv_if_lt (tgt := 70) hx hb dX10_against_44 (by decide) (fun b4 => ?_) (fun b4 => ?_)
        · have hF := zif_t b4 hF
          exact hB70 σ l1 l2 l3 l4 _ _ _ hF hP hD hS (lv_sub hl [0, 1, 2, 3, 4] rfl)
        · have hF := zif_f b4 hF
          refine lv_iload_n hx hb dX10_against_47 rfl (lv_at hl 3 rfl) ?_
          refine lv_aload_n hx hb dX10_against_48 rfl (lv_at hl 0 rfl) ?_
          refine z_get (ci := 9) (C := RX10) (T := TX10) (N := 32) hx hb hts iX10_against_X10 hown hK hP (by decide) zm_0 rfl 3 (by decide) kX10_against_f13 rfl (v := .ref (ad 2)) rfl dX10_against_49 ?_
          refine lv_iload_n hx hb dX10_against_52 rfl (lv_at hl 1 rfl) ?_
          obtain ⟨g5, hF⟩ := zgd_inv hF
          refine z_iald hx hb hK hP (by decide) (zm_a (n := 4) (by decide)) rfl g5 dX10_against_53 ?_
          refine lv_icmp_gt (tgt := 70) hx hb dX10_against_54 (by decide) (fun b6 => ?_) (fun b6 => ?_)
          · have hF := zif_t b6 hF
            exact hB70 σ l1 l2 l3 l4 _ _ _ hF hP hD hS (lv_sub hl [0, 1, 2, 3, 4] rfl)
          · have hF := zif_f b6 hF
            refine lv_iload hx hb dX10_against_57 (lv_at hl 4 rfl) ?_
            refine lv_aload_n hx hb dX10_against_59 rfl (lv_at hl 0 rfl) ?_
            refine z_get (ci := 9) (C := RX10) (T := TX10) (N := 32) hx hb hts iX10_against_X10 hown hK hP (by decide) zm_0 rfl 3 (by decide) kX10_against_f13 rfl (v := .ref (ad 2)) rfl dX10_against_60 ?_
            refine lv_iload_n hx hb dX10_against_63 rfl (lv_at hl 1 rfl) ?_
            obtain ⟨g7, hF⟩ := zgd_inv hF
            refine z_iald hx hb hK hP (by decide) (zm_a (n := 4) (by decide)) rfl g7 dX10_against_64 ?_
            refine lv_iload_n hx hb dX10_against_65 rfl (lv_at hl 3 rfl) ?_
            refine lv_isub hx hb dX10_against_66 ?_
            refine lv_icmp_le (tgt := 74) hx hb dX10_against_67 (by decide) (fun b8 => ?_) (fun b8 => ?_)
            · have hF := zif_t b8 hF
              refine lv_iconst (v := (0 : Int32)) hx hb dX10_against_74 (by decide) ?_
              exact z_iret hx hb hr hlocks hN hK hP hD hS hF dX10_against_75
            · have hF := zif_f b8 hF
              exact hB70 σ l1 l2 l3 l4 _ _ _ hF hP hD hS (lv_sub hl [0, 1, 2, 3, 4] rfl)
      · have hF := zif_f b3 hF
        refine lv_iconst (v := (4 : Int32)) hx hb dX10_against_41 (by decide) ?_
        exact z_iret hx hb hr hlocks hN hK hP hD hS hF dX10_against_42
    · have hF := zif_t b2 hF
      refine lv_iconst (v := (1 : Int32)) hx hb dX10_against_34 (by decide) ?_
      exact z_iret hx hb hr hlocks hN hK hP hD hS hF dX10_against_35
  unfold FX10_against at hF
  refine lv_aload_n hx hb dX10_against_0 rfl (lv_at hl 0 rfl) ?_
  refine z_get (ci := 9) (C := RX10) (T := TX10) (N := 32) hx hb hts iX10_against_X10 hown hK hP (by decide) zm_0 rfl 2 (by decide) kX10_against_f9 rfl (v := .ref (ad 1)) rfl dX10_against_1 ?_
  refine lv_iload_n hx hb dX10_against_4 rfl (lv_at hl 1 rfl) ?_
  obtain ⟨g9, hF⟩ := zgd_inv hF
  refine z_iald hx hb hK hP (by decide) (zm_a (n := 4) (by decide)) rfl g9 dX10_against_5 ?_
  refine lv_bipush (v := (-9 : Int32)) hx hb dX10_against_6 (by decide) ?_
  refine lv_icmp_eq (tgt := 23) hx hb dX10_against_8 (by decide) (fun b10 => ?_) (fun b10 => ?_)
  · have hF := zif_t b10 hF
    exact hB23 σ p1 p2 p3 p4 _ _ _ hF hP hD hS (lv_sub hl [0, 1, 2, 3, 4] rfl)
  · have hF := zif_f b10 hF
    refine lv_aload_n hx hb dX10_against_11 rfl (lv_at hl 0 rfl) ?_
    refine z_get (ci := 9) (C := RX10) (T := TX10) (N := 32) hx hb hts iX10_against_X10 hown hK hP (by decide) zm_0 rfl 2 (by decide) kX10_against_f9 rfl (v := .ref (ad 1)) rfl dX10_against_12 ?_
    refine lv_iload_n hx hb dX10_against_15 rfl (lv_at hl 1 rfl) ?_
    obtain ⟨g11, hF⟩ := zgd_inv hF
    refine z_iald hx hb hK hP (by decide) (zm_a (n := 4) (by decide)) rfl g11 dX10_against_16 ?_
    refine lv_iload_n hx hb dX10_against_17 rfl (lv_at hl 2 rfl) ?_
    refine lv_icmp_eq (tgt := 23) hx hb dX10_against_18 (by decide) (fun b12 => ?_) (fun b12 => ?_)
    · have hF := zif_t b12 hF
      exact hB23 σ p1 p2 p3 p4 _ _ _ hF hP hD hS (lv_sub hl [0, 1, 2, 3, 4] rfl)
    · have hF := zif_f b12 hF
      refine lv_iconst (v := (2 : Int32)) hx hb dX10_against_21 (by decide) ?_
      exact z_iret hx hb hr hlocks hN hK hP hD hS hF dX10_against_22
theorem kX10_isPerson_f77 : Cond.fieldLink RX10 77 "LeastAskedModel" "people" "I" ∈ wsX10_isPerson := by decide +kernel
theorem iX10_isPerson_X10 : ∀ w ∈ u_ws RX10 TX10 32, w ∈ wsX10_isPerson := fun _ h => List.mem_cons_of_mem _ (List.mem_append_right _ h)
set_option maxHeartbeats 4000000 in
set_option maxRecDepth 100000 in
theorem CX10_isPerson (l : Launch) (D : va_G) (cI cS cP : ClassId) (ad : Nat → Nat) (A : Nat → Prop) (n : Nat) (σ σ' : zMem) (r0 : Int32) (p1 : Int32) (hF : FX10_isPerson n σ p1 = some (r0, σ')) : Met l yX10_isPerson wsX10_isPerson ({ frames := 0, cells := 0, slots := 0, locals := 0 } : Room) (va_Pc [.ref (ad 0), .int p1] (zB (zm cI ad) 20 ad D (zty cI cS cP) A σ)) (va_Qi (fun r u => r = r0 ∧ u = σ') (zB (zm cI ad) 20 ad D (zty cI cS cP) A) A) 0 0 A := by
  refine Met.ofW (cc := cX10_isPerson) (maxL := 2) (ret := (some .boolean)) (by decide) rfl ?_
  intro p e s m args below meth c s₁ B hml hv
  obtain ⟨rfl, hP, hK, hD, hN⟩ := hv
  have hx := B.exec
  have hb := B.bytes
  have hr := B.returns
  have hts := atoms_spec (ws := wsX10_isPerson) B.pre
  have hown : s.vm.findClass RX10 = some m.cls := findClass_of_methodNamed B.named
  have hlocks := B.notSynchronized
  have hS : va_S A s.heap s.heap [] := va_S.rf
  have hl := lv_entry ([.ref (ad 0), .int p1]) (n := 2) (Nat.le_of_ble_eq_true rfl)
  rw [lg_entry_eq]
  generalize (lg_sl ([.ref (ad 0), .int p1]) ++ List.replicate (2 - (lg_sl ([.ref (ad 0), .int p1])).length) Slot.unset).toArray = ls at hl ⊢
  have hl : lv_has ls 2 [(0, .ref (ad 0)), (1, .int p1)] := hl
  clear B
  unfold FX10_isPerson at hF
  refine lv_iload_n hx hb dX10_isPerson_0 rfl (lv_at hl 1 rfl) ?_
  refine lv_if_lt (tgt := 16) hx hb dX10_isPerson_1 (by decide) (fun b1 => ?_) (fun b1 => ?_)
  · have hF := zif_t b1 hF
    refine lv_iconst (v := (0 : Int32)) hx hb dX10_isPerson_16 (by decide) ?_
    exact z_zret hx hb hr hlocks (Or.inl rfl) hN hK hP hD hS hF dX10_isPerson_17
  · have hF := zif_f b1 hF
    refine lv_iload_n hx hb dX10_isPerson_4 rfl (lv_at hl 1 rfl) ?_
    refine lv_aload_n hx hb dX10_isPerson_5 rfl (lv_at hl 0 rfl) ?_
    refine z_get (ci := 9) (C := RX10) (T := TX10) (N := 32) hx hb hts iX10_isPerson_X10 hown hK hP (by decide) zm_0 rfl 5 (by decide) kX10_isPerson_f77 rfl (v := .int (σ 0 5)) rfl dX10_isPerson_6 ?_
    refine lv_icmp_ge (tgt := 16) hx hb dX10_isPerson_9 (by decide) (fun b2 => ?_) (fun b2 => ?_)
    · have hF := zif_t b2 hF
      refine lv_iconst (v := (0 : Int32)) hx hb dX10_isPerson_16 (by decide) ?_
      exact z_zret hx hb hr hlocks (Or.inl rfl) hN hK hP hD hS hF dX10_isPerson_17
    · have hF := zif_f b2 hF
      refine lv_iconst (v := (1 : Int32)) hx hb dX10_isPerson_12 (by decide) ?_
      refine lv_goto (tgt := 17) hx hb dX10_isPerson_13 (by decide) ?_
      exact z_zret hx hb hr hlocks (Or.inr rfl) hN hK hP hD hS hF dX10_isPerson_17
theorem kX10_isMatter_f77 : Cond.fieldLink RX10 77 "LeastAskedModel" "people" "I" ∈ wsX10_isMatter := by decide +kernel
theorem iX10_isMatter_X10 : ∀ w ∈ u_ws RX10 TX10 32, w ∈ wsX10_isMatter := fun _ h => List.mem_cons_of_mem _ (List.mem_append_right _ h)
set_option maxHeartbeats 4000000 in
set_option maxRecDepth 100000 in
theorem CX10_isMatter (l : Launch) (D : va_G) (cI cS cP : ClassId) (ad : Nat → Nat) (A : Nat → Prop) (n : Nat) (σ σ' : zMem) (r0 : Int32) (p1 : Int32) (hF : FX10_isMatter n σ p1 = some (r0, σ')) : Met l yX10_isMatter wsX10_isMatter ({ frames := 0, cells := 0, slots := 0, locals := 0 } : Room) (va_Pc [.ref (ad 0), .int p1] (zB (zm cI ad) 20 ad D (zty cI cS cP) A σ)) (va_Qi (fun r u => r = r0 ∧ u = σ') (zB (zm cI ad) 20 ad D (zty cI cS cP) A) A) 0 0 A := by
  refine Met.ofW (cc := cX10_isMatter) (maxL := 2) (ret := (some .boolean)) (by decide) rfl ?_
  intro p e s m args below meth c s₁ B hml hv
  obtain ⟨rfl, hP, hK, hD, hN⟩ := hv
  have hx := B.exec
  have hb := B.bytes
  have hr := B.returns
  have hts := atoms_spec (ws := wsX10_isMatter) B.pre
  have hown : s.vm.findClass RX10 = some m.cls := findClass_of_methodNamed B.named
  have hlocks := B.notSynchronized
  have hS : va_S A s.heap s.heap [] := va_S.rf
  have hl := lv_entry ([.ref (ad 0), .int p1]) (n := 2) (Nat.le_of_ble_eq_true rfl)
  rw [lg_entry_eq]
  generalize (lg_sl ([.ref (ad 0), .int p1]) ++ List.replicate (2 - (lg_sl ([.ref (ad 0), .int p1])).length) Slot.unset).toArray = ls at hl ⊢
  have hl : lv_has ls 2 [(0, .ref (ad 0)), (1, .int p1)] := hl
  clear B
  unfold FX10_isMatter at hF
  refine lv_aload_n hx hb dX10_isMatter_0 rfl (lv_at hl 0 rfl) ?_
  refine z_get (ci := 9) (C := RX10) (T := TX10) (N := 32) hx hb hts iX10_isMatter_X10 hown hK hP (by decide) zm_0 rfl 5 (by decide) kX10_isMatter_f77 rfl (v := .int (σ 0 5)) rfl dX10_isMatter_1 ?_
  refine lv_if_le (tgt := 20) hx hb dX10_isMatter_4 (by decide) (fun b1 => ?_) (fun b1 => ?_)
  · have hF := zif_t b1 hF
    refine lv_iconst (v := (0 : Int32)) hx hb dX10_isMatter_20 (by decide) ?_
    exact z_zret hx hb hr hlocks (Or.inl rfl) hN hK hP hD hS hF dX10_isMatter_21
  · have hF := zif_f b1 hF
    refine lv_iload_n hx hb dX10_isMatter_7 rfl (lv_at hl 1 rfl) ?_
    refine lv_if_lt (tgt := 20) hx hb dX10_isMatter_8 (by decide) (fun b2 => ?_) (fun b2 => ?_)
    · have hF := zif_t b2 hF
      refine lv_iconst (v := (0 : Int32)) hx hb dX10_isMatter_20 (by decide) ?_
      exact z_zret hx hb hr hlocks (Or.inl rfl) hN hK hP hD hS hF dX10_isMatter_21
    · have hF := zif_f b2 hF
      refine lv_iload_n hx hb dX10_isMatter_11 rfl (lv_at hl 1 rfl) ?_
      refine lv_iconst (v := (3 : Int32)) hx hb dX10_isMatter_12 (by decide) ?_
      refine lv_icmp_ge (tgt := 20) hx hb dX10_isMatter_13 (by decide) (fun b3 => ?_) (fun b3 => ?_)
      · have hF := zif_t b3 hF
        refine lv_iconst (v := (0 : Int32)) hx hb dX10_isMatter_20 (by decide) ?_
        exact z_zret hx hb hr hlocks (Or.inl rfl) hN hK hP hD hS hF dX10_isMatter_21
      · have hF := zif_f b3 hF
        refine lv_iconst (v := (1 : Int32)) hx hb dX10_isMatter_16 (by decide) ?_
        refine lv_goto (tgt := 21) hx hb dX10_isMatter_17 (by decide) ?_
        exact z_zret hx hb hr hlocks (Or.inr rfl) hN hK hP hD hS hF dX10_isMatter_21
set_option maxHeartbeats 4000000 in
set_option maxRecDepth 100000 in
theorem CX10_isOf (l : Launch) (D : va_G) (cI cS cP : ClassId) (ad : Nat → Nat) (A : Nat → Prop) (n : Nat) (σ σ' : zMem) (r0 : Int32) (p1 : Int32) (p2 : Int32) (hF : FX10_isOf n σ p1 p2 = some (r0, σ')) : Met l yX10_isOf wsX10_isOf ({ frames := 0, cells := 0, slots := 0, locals := 0 } : Room) (va_Pc [.int p1, .int p2] (zB (zm cI ad) 20 ad D (zty cI cS cP) A σ)) (va_Qi (fun r u => r = r0 ∧ u = σ') (zB (zm cI ad) 20 ad D (zty cI cS cP) A) A) 0 0 A := by
  refine Met.ofW (cc := cX10_isOf) (maxL := 2) (ret := (some .boolean)) (by decide) rfl ?_
  intro p e s m args below meth c s₁ B hml hv
  obtain ⟨rfl, hP, hK, hD, hN⟩ := hv
  have hx := B.exec
  have hb := B.bytes
  have hr := B.returns
  have hts := atoms_spec (ws := wsX10_isOf) B.pre
  have hown : s.vm.findClass RX10 = some m.cls := findClass_of_methodNamed B.named
  have hlocks := B.notSynchronized
  have hS : va_S A s.heap s.heap [] := va_S.rf
  have hl := lv_entry ([.int p1, .int p2]) (n := 2) (Nat.le_of_ble_eq_true rfl)
  rw [lg_entry_eq]
  generalize (lg_sl ([.int p1, .int p2]) ++ List.replicate (2 - (lg_sl ([.int p1, .int p2])).length) Slot.unset).toArray = ls at hl ⊢
  have hl : lv_has ls 2 [(0, .int p1), (1, .int p2)] := hl
  clear B
  unfold FX10_isOf at hF
  refine lv_iload_n hx hb dX10_isOf_0 rfl (lv_at hl 0 rfl) ?_
  refine lv_iload_n hx hb dX10_isOf_1 rfl (lv_at hl 1 rfl) ?_
  refine lv_ishr hx hb dX10_isOf_2 ?_
  refine lv_iconst (v := (1 : Int32)) hx hb dX10_isOf_3 (by decide) ?_
  refine lv_iand hx hb dX10_isOf_4 ?_
  refine lv_iconst (v := (1 : Int32)) hx hb dX10_isOf_5 (by decide) ?_
  refine lv_icmp_ne (tgt := 13) hx hb dX10_isOf_6 (by decide) (fun b1 => ?_) (fun b1 => ?_)
  · have hF := zif_f b1 hF
    refine lv_iconst (v := (0 : Int32)) hx hb dX10_isOf_13 (by decide) ?_
    exact z_zret hx hb hr hlocks (Or.inl rfl) hN hK hP hD hS hF dX10_isOf_14
  · have hF := zif_t b1 hF
    refine lv_iconst (v := (1 : Int32)) hx hb dX10_isOf_9 (by decide) ?_
    refine lv_goto (tgt := 14) hx hb dX10_isOf_10 (by decide) ?_
    exact z_zret hx hb hr hlocks (Or.inr rfl) hN hK hP hD hS hF dX10_isOf_14
theorem kX10_digit_f80 : Cond.fieldLink RX10 80 "LeastAskedModel" "at" "I" ∈ wsX10_digit := by decide +kernel
theorem kX10_digit_f16 : Cond.fieldLink RX10 16 "LeastAskedModel" "cells" "[I" ∈ wsX10_digit := by decide +kernel
theorem iX10_digit_X10 : ∀ w ∈ u_ws RX10 TX10 32, w ∈ wsX10_digit := fun _ h => List.mem_cons_of_mem _ (List.mem_append_right _ h)
set_option maxHeartbeats 4000000 in
set_option maxRecDepth 100000 in
theorem CX10_digit (l : Launch) (D : va_G) (cI cS cP : ClassId) (ad : Nat → Nat) (A : Nat → Prop) (n : Nat) (σ σ' : zMem) (r0 : Int32) (p1 : Int32) (p2 : Int32) (hF : FX10_digit n σ p1 p2 = some (r0, σ')) : Met l yX10_digit wsX10_digit ({ frames := 1, cells := 0, slots := 0, locals := 22 } : Room) (va_Pc [.ref (ad 0), .int p1, .int p2] (zB (zm cI ad) 20 ad D (zty cI cS cP) A σ)) (va_Qi (fun r u => r = r0 ∧ u = σ') (zB (zm cI ad) 20 ad D (zty cI cS cP) A) A) 0 0 A := by
  refine Met.ofW (cc := cX10_digit) (maxL := 3) (ret := (some .int)) (by decide) rfl ?_
  intro p e s m args below meth c s₁ B hml hv
  obtain ⟨rfl, hP, hK, hD, hN⟩ := hv
  have hx := B.exec
  have hb := B.bytes
  have hr := B.returns
  have hts := atoms_spec (ws := wsX10_digit) B.pre
  have hown : s.vm.findClass RX10 = some m.cls := findClass_of_methodNamed B.named
  have hlocks := B.notSynchronized
  have hS : va_S A s.heap s.heap [] := va_S.rf
  have hl := lv_entry ([.ref (ad 0), .int p1, .int p2]) (n := 3) (Nat.le_of_ble_eq_true rfl)
  rw [lg_entry_eq]
  generalize (lg_sl ([.ref (ad 0), .int p1, .int p2]) ++ List.replicate (3 - (lg_sl ([.ref (ad 0), .int p1, .int p2])).length) Slot.unset).toArray = ls at hl ⊢
  have hl : lv_has ls 3 [(0, .ref (ad 0)), (1, .int p1), (2, .int p2)] := hl
  clear B
  unfold FX10_digit at hF
  refine lv_aload_n hx hb dX10_digit_0 rfl (lv_at hl 0 rfl) ?_
  refine z_get (ci := 9) (C := RX10) (T := TX10) (N := 32) hx hb hts iX10_digit_X10 hown hK hP (by decide) zm_0 rfl 13 (by decide) kX10_digit_f80 rfl (v := .int (σ 0 13)) rfl dX10_digit_1 ?_
  refine lv_iload_n hx hb dX10_digit_4 rfl (lv_at hl 1 rfl) ?_
  refine lv_icmp_ge (tgt := 29) hx hb dX10_digit_5 (by decide) (fun b1 => ?_) (fun b1 => ?_)
  · have hF := zif_t b1 hF
    refine lv_bipush (v := (-9 : Int32)) hx hb dX10_digit_29 (by decide) ?_
    exact z_iret hx hb hr hlocks hN hK hP hD hS hF dX10_digit_31
  · have hF := zif_f b1 hF
    refine lv_aload_n hx hb dX10_digit_8 rfl (lv_at hl 0 rfl) ?_
    refine z_get (ci := 9) (C := RX10) (T := TX10) (N := 32) hx hb hts iX10_digit_X10 hown hK hP (by decide) zm_0 rfl 4 (by decide) kX10_digit_f16 rfl (v := .ref (ad 3)) rfl dX10_digit_9 ?_
    refine lv_aload_n hx hb dX10_digit_12 rfl (lv_at hl 0 rfl) ?_
    refine z_get (ci := 9) (C := RX10) (T := TX10) (N := 32) hx hb hts iX10_digit_X10 hown hK hP (by decide) zm_0 rfl 13 (by decide) kX10_digit_f80 rfl (v := .int (σ 0 13)) rfl dX10_digit_13 ?_
    obtain ⟨g2, hF⟩ := zgd_inv hF
    refine z_iald hx hb hK hP (by decide) (zm_a (n := 240) (by decide)) rfl g2 dX10_digit_16 ?_
    refine lv_bipush (v := (48 : Int32)) hx hb dX10_digit_17 (by decide) ?_
    refine lv_bipush (v := (48 : Int32)) hx hb dX10_digit_19 (by decide) ?_
    refine lv_iload_n hx hb dX10_digit_21 rfl (lv_at hl 2 rfl) ?_
    refine lv_iadd hx hb dX10_digit_22 ?_
    obtain ⟨r4, σ3, hC5, hF⟩ := zbd_inv hF
    refine z_calli (va_runS (As := [.int (σ 3 ((σ 0 13) : Int32).toNatClampNeg), .int (48 : Int32), .int ((48 : Int32) + p2)]) (rest := []) ⟨hx, hb, hml, hown, hts⟩ (CX10_within l D cI cS cP ad A n σ σ3 r4 (σ 3 ((σ 0 13) : Int32).toNatClampNeg) (48 : Int32) ((48 : Int32) + p2) hC5) (va_cwS 3 hts gX10_digit_X10_within rfl rfl rfl (by decide +kernel) ⟨Nat.le_of_ble_eq_true rfl, Nat.le_of_ble_eq_true rfl⟩) (z_preS hN hK hP hD) rfl rfl hl.1 rfl (lv_room (Nat.le_of_ble_eq_true rfl)) dX10_digit_23 ⟨Nat.zero_le _, Nat.zero_le _⟩) hS (fun H locs hP hD hS => ?_)
    refine lv_if_ne (tgt := 32) hx hb dX10_digit_26 (by decide) (fun b6 => ?_) (fun b6 => ?_)
    · have hF := zif_f b6 hF
      refine lv_aload_n hx hb dX10_digit_32 rfl (lv_at hl 0 rfl) ?_
      refine lv_dup hx hb dX10_digit_33 rfl ?_
      refine z_get (ci := 9) (C := RX10) (T := TX10) (N := 32) hx hb hts iX10_digit_X10 hown hK hP (by decide) zm_0 rfl 13 (by decide) kX10_digit_f80 rfl (v := .int (σ3 0 13)) rfl dX10_digit_34 ?_
      refine lv_iconst (v := (1 : Int32)) hx hb dX10_digit_37 (by decide) ?_
      refine lv_iadd hx hb dX10_digit_38 ?_
      obtain ⟨σ7, eσ7, hF⟩ := zlet_inv hF
      refine z_put (ci := 9) (C := RX10) (T := TX10) (N := 32) hx hb hts iX10_digit_X10 tyX10 tyX10_ok nmX10 hown hK hP hD hS (by decide) zm_0 rfl 13 (by decide) kX10_digit_f80 rfl rfl rfl rfl (Nat.le_of_ble_eq_true rfl) zm_0 dX10_digit_39 (fun H locs hP hD hS => ?_)
      have hP : va_P D vwCl (zW (zm cI ad) 20 ad σ7) H := by rw [eσ7]; exact hP
      have hD : va_D A (zW (zm cI ad) 20 ad σ7) := by rw [eσ7]; exact hD
      refine lv_aload_n hx hb dX10_digit_42 rfl (lv_at hl 0 rfl) ?_
      refine z_get (ci := 9) (C := RX10) (T := TX10) (N := 32) hx hb hts iX10_digit_X10 hown hK hP (by decide) zm_0 rfl 4 (by decide) kX10_digit_f16 rfl (v := .ref (ad 3)) rfl dX10_digit_43 ?_
      refine lv_aload_n hx hb dX10_digit_46 rfl (lv_at hl 0 rfl) ?_
      refine z_get (ci := 9) (C := RX10) (T := TX10) (N := 32) hx hb hts iX10_digit_X10 hown hK hP (by decide) zm_0 rfl 13 (by decide) kX10_digit_f80 rfl (v := .int (σ7 0 13)) rfl dX10_digit_47 ?_
      refine lv_iconst (v := (1 : Int32)) hx hb dX10_digit_50 (by decide) ?_
      refine lv_isub hx hb dX10_digit_51 ?_
      obtain ⟨g8, hF⟩ := zgd_inv hF
      refine z_iald hx hb hK hP (by decide) (zm_a (n := 240) (by decide)) rfl g8 dX10_digit_52 ?_
      refine lv_bipush (v := (48 : Int32)) hx hb dX10_digit_53 (by decide) ?_
      refine lv_isub hx hb dX10_digit_55 ?_
      exact z_iret hx hb hr hlocks hN hK hP hD hS hF dX10_digit_56
    · have hF := zif_t b6 hF
      refine lv_bipush (v := (-9 : Int32)) hx hb dX10_digit_29 (by decide) ?_
      exact z_iret hx hb hr hlocks hN hK hP hD hS hF dX10_digit_31
theorem kX10_isSign_f80 : Cond.fieldLink RX10 80 "LeastAskedModel" "at" "I" ∈ wsX10_isSign := by decide +kernel
theorem kX10_isSign_f16 : Cond.fieldLink RX10 16 "LeastAskedModel" "cells" "[I" ∈ wsX10_isSign := by decide +kernel
theorem iX10_isSign_X10 : ∀ w ∈ u_ws RX10 TX10 32, w ∈ wsX10_isSign := fun _ h => List.mem_cons_of_mem _ (List.mem_append_right _ h)
set_option maxHeartbeats 4000000 in
set_option maxRecDepth 100000 in
theorem CX10_isSign (l : Launch) (D : va_G) (cI cS cP : ClassId) (ad : Nat → Nat) (A : Nat → Prop) (n : Nat) (σ σ' : zMem) (r0 : Int32) (p1 : Int32) (p2 : Int32) (hF : FX10_isSign n σ p1 p2 = some (r0, σ')) : Met l yX10_isSign wsX10_isSign ({ frames := 0, cells := 0, slots := 0, locals := 0 } : Room) (va_Pc [.ref (ad 0), .int p1, .int p2] (zB (zm cI ad) 20 ad D (zty cI cS cP) A σ)) (va_Qi (fun r u => r = r0 ∧ u = σ') (zB (zm cI ad) 20 ad D (zty cI cS cP) A) A) 0 0 A := by
  refine Met.ofW (cc := cX10_isSign) (maxL := 3) (ret := (some .boolean)) (by decide) rfl ?_
  intro p e s m args below meth c s₁ B hml hv
  obtain ⟨rfl, hP, hK, hD, hN⟩ := hv
  have hx := B.exec
  have hb := B.bytes
  have hr := B.returns
  have hts := atoms_spec (ws := wsX10_isSign) B.pre
  have hown : s.vm.findClass RX10 = some m.cls := findClass_of_methodNamed B.named
  have hlocks := B.notSynchronized
  have hS : va_S A s.heap s.heap [] := va_S.rf
  have hl := lv_entry ([.ref (ad 0), .int p1, .int p2]) (n := 3) (Nat.le_of_ble_eq_true rfl)
  rw [lg_entry_eq]
  generalize (lg_sl ([.ref (ad 0), .int p1, .int p2]) ++ List.replicate (3 - (lg_sl ([.ref (ad 0), .int p1, .int p2])).length) Slot.unset).toArray = ls at hl ⊢
  have hl : lv_has ls 3 [(0, .ref (ad 0)), (1, .int p1), (2, .int p2)] := hl
  clear B
  unfold FX10_isSign at hF
  refine lv_aload_n hx hb dX10_isSign_0 rfl (lv_at hl 0 rfl) ?_
  refine z_get (ci := 9) (C := RX10) (T := TX10) (N := 32) hx hb hts iX10_isSign_X10 hown hK hP (by decide) zm_0 rfl 13 (by decide) kX10_isSign_f80 rfl (v := .int (σ 0 13)) rfl dX10_isSign_1 ?_
  refine lv_iload_n hx hb dX10_isSign_4 rfl (lv_at hl 1 rfl) ?_
  refine lv_icmp_ge (tgt := 21) hx hb dX10_isSign_5 (by decide) (fun b1 => ?_) (fun b1 => ?_)
  · have hF := zif_t b1 hF
    refine lv_iconst (v := (0 : Int32)) hx hb dX10_isSign_21 (by decide) ?_
    exact z_zret hx hb hr hlocks (Or.inl rfl) hN hK hP hD hS hF dX10_isSign_22
  · have hF := zif_f b1 hF
    refine lv_aload_n hx hb dX10_isSign_8 rfl (lv_at hl 0 rfl) ?_
    refine z_get (ci := 9) (C := RX10) (T := TX10) (N := 32) hx hb hts iX10_isSign_X10 hown hK hP (by decide) zm_0 rfl 4 (by decide) kX10_isSign_f16 rfl (v := .ref (ad 3)) rfl dX10_isSign_9 ?_
    refine lv_aload_n hx hb dX10_isSign_12 rfl (lv_at hl 0 rfl) ?_
    refine z_get (ci := 9) (C := RX10) (T := TX10) (N := 32) hx hb hts iX10_isSign_X10 hown hK hP (by decide) zm_0 rfl 13 (by decide) kX10_isSign_f80 rfl (v := .int (σ 0 13)) rfl dX10_isSign_13 ?_
    obtain ⟨g2, hF⟩ := zgd_inv hF
    refine z_iald hx hb hK hP (by decide) (zm_a (n := 240) (by decide)) rfl g2 dX10_isSign_16 ?_
    refine lv_iload_n hx hb dX10_isSign_17 rfl (lv_at hl 2 rfl) ?_
    refine lv_icmp_eq (tgt := 23) hx hb dX10_isSign_18 (by decide) (fun b3 => ?_) (fun b3 => ?_)
    · have hF := zif_t b3 hF
      refine lv_aload_n hx hb dX10_isSign_23 rfl (lv_at hl 0 rfl) ?_
      refine lv_dup hx hb dX10_isSign_24 rfl ?_
      refine z_get (ci := 9) (C := RX10) (T := TX10) (N := 32) hx hb hts iX10_isSign_X10 hown hK hP (by decide) zm_0 rfl 13 (by decide) kX10_isSign_f80 rfl (v := .int (σ 0 13)) rfl dX10_isSign_25 ?_
      refine lv_iconst (v := (1 : Int32)) hx hb dX10_isSign_28 (by decide) ?_
      refine lv_iadd hx hb dX10_isSign_29 ?_
      obtain ⟨σ4, eσ4, hF⟩ := zlet_inv hF
      refine z_put (ci := 9) (C := RX10) (T := TX10) (N := 32) hx hb hts iX10_isSign_X10 tyX10 tyX10_ok nmX10 hown hK hP hD hS (by decide) zm_0 rfl 13 (by decide) kX10_isSign_f80 rfl rfl rfl rfl (Nat.le_of_ble_eq_true rfl) zm_0 dX10_isSign_30 (fun H locs hP hD hS => ?_)
      have hP : va_P D vwCl (zW (zm cI ad) 20 ad σ4) H := by rw [eσ4]; exact hP
      have hD : va_D A (zW (zm cI ad) 20 ad σ4) := by rw [eσ4]; exact hD
      refine lv_iconst (v := (1 : Int32)) hx hb dX10_isSign_33 (by decide) ?_
      exact z_zret hx hb hr hlocks (Or.inr rfl) hN hK hP hD hS hF dX10_isSign_34
    · have hF := zif_f b3 hF
      refine lv_iconst (v := (0 : Int32)) hx hb dX10_isSign_21 (by decide) ?_
      exact z_zret hx hb hr hlocks (Or.inl rfl) hN hK hP hD hS hF dX10_isSign_22
theorem kX10_readPerson_f37 : Cond.fieldLink RX10 37 "LeastAskedModel" "read" "[I" ∈ wsX10_readPerson := by decide +kernel
theorem kX10_readPerson_f104 : Cond.fieldLink RX10 104 "LeastAskedModel" "readPeople" "I" ∈ wsX10_readPerson := by decide +kernel
theorem kX10_readPerson_f80 : Cond.fieldLink RX10 80 "LeastAskedModel" "at" "I" ∈ wsX10_readPerson := by decide +kernel
theorem kX10_readPerson_f16 : Cond.fieldLink RX10 16 "LeastAskedModel" "cells" "[I" ∈ wsX10_readPerson := by decide +kernel
theorem iX10_readPerson_X10 : ∀ w ∈ u_ws RX10 TX10 32, w ∈ wsX10_readPerson := fun _ h => List.mem_cons_of_mem _ (List.mem_append_right _ h)
set_option maxHeartbeats 4000000 in
set_option maxRecDepth 100000 in
theorem CX10_readPerson (l : Launch) (D : va_G) (cI cS cP : ClassId) (ad : Nat → Nat) (A : Nat → Prop) (n : Nat) (σ σ' : zMem) (r0 : Int32) (p1 : Int32) (hF : FX10_readPerson n σ p1 = some (r0, σ')) : Met l yX10_readPerson wsX10_readPerson ({ frames := 2, cells := 0, slots := 0, locals := 44 } : Room) (va_Pc [.ref (ad 0), .int p1] (zB (zm cI ad) 20 ad D (zty cI cS cP) A σ)) (va_Qi (fun r u => r = r0 ∧ u = σ') (zB (zm cI ad) 20 ad D (zty cI cS cP) A) A) 0 0 A := by
  refine Met.ofW (cc := cX10_readPerson) (maxL := 5) (ret := (some .boolean)) (by decide) rfl ?_
  intro p e s m args below meth c s₁ B hml hv
  obtain ⟨rfl, hP, hK, hD, hN⟩ := hv
  have hx := B.exec
  have hb := B.bytes
  have hr := B.returns
  have hts := atoms_spec (ws := wsX10_readPerson) B.pre
  have hown : s.vm.findClass RX10 = some m.cls := findClass_of_methodNamed B.named
  have hlocks := B.notSynchronized
  have hS : va_S A s.heap s.heap [] := va_S.rf
  have hl := lv_entry ([.ref (ad 0), .int p1]) (n := 5) (Nat.le_of_ble_eq_true rfl)
  rw [lg_entry_eq]
  generalize (lg_sl ([.ref (ad 0), .int p1]) ++ List.replicate (5 - (lg_sl ([.ref (ad 0), .int p1])).length) Slot.unset).toArray = ls at hl ⊢
  have hl : lv_has ls 5 [(0, .ref (ad 0)), (1, .int p1)] := hl
  clear B
  have hB93 : ∀ (f93 : Nat) (σ : zMem) (l1 : Int32) (l2 : Int32) (l3 : Int32) (l4 : Int32), ∀ (H : Heap) (locs : List Loc) (ls : Array Slot), zlp (LX10_readPerson_93 n) f93 (σ, l1, l2, l3, l4) = some (r0, σ') → va_P D vwCl (zW (zm cI ad) 20 ad σ) H → va_D A (zW (zm cI ad) 20 ad σ) → va_S A s.heap H locs → lv_has ls 5 [(0, .ref (ad 0)), (1, .int l1), (2, .int l2), (3, .int l3), (4, .int l4)] → W p l e (headSpec wsX10_readPerson ({ frames := 2, cells := 0, slots := 0, locals := 44 } : Room)).room s m ([.ref (ad 0), .int p1] : List Value).toArray below meth c H locs 0 0 (MQ below (va_Qi (fun r u => r = r0 ∧ u = σ') (zB (zm cI ad) 20 ad D (zty cI cS cP) A) A) ([.ref (ad 0), .int p1] : List Value).toArray s 0 0 A) (F0 m 93 ls []) := by
    intro f93
    induction f93 with
    | zero => intro σ l1 l2 l3 l4 H locs ls hF hP hD hS hl; exact (zlp_0 hF).elim
    | succ f93 ih93 =>
      have hB122 : ∀ (σ : zMem) (l1 : Int32) (l2 : Int32) (l3 : Int32) (l4 : Int32) (s1 : Int32) (s3 : Int32) (s4 : Int32), ∀ (H : Heap) (locs : List Loc) (ls : Array Slot), BX10_readPerson_122 n (zlp (LX10_readPerson_93 n) f93) σ l1 l2 l3 l4 s1 s3 s4 = some (r0, σ') → va_P D vwCl (zW (zm cI ad) 20 ad σ) H → va_D A (zW (zm cI ad) 20 ad σ) → va_S A s.heap H locs → lv_has ls 5 [(0, .ref (ad 0)), (1, .int l1), (2, .int l2), (3, .int l3), (4, .int l4)] → W p l e (headSpec wsX10_readPerson ({ frames := 2, cells := 0, slots := 0, locals := 44 } : Room)).room s m ([.ref (ad 0), .int p1] : List Value).toArray below meth c H locs 0 0 (MQ below (va_Qi (fun r u => r = r0 ∧ u = σ') (zB (zm cI ad) 20 ad D (zty cI cS cP) A) A) ([.ref (ad 0), .int p1] : List Value).toArray s 0 0 A) (F0 m 122 ls [.int s4, .int s3, .ref (ad 0), .int s1, .ref (ad 10)]) := by
        intro σ l1 l2 l3 l4 s1 s3 s4 H locs ls hF hP hD hS hl
        unfold BX10_readPerson_122 at hF
        obtain ⟨r2, σ1, hC3, hF⟩ := zbd_inv hF
        refine z_calli (va_runV (As := [.int s3, .int s4]) (rest := [.int s1, .ref (ad 10)]) ⟨hx, hb, hml, hown, hts⟩ (CX10_digit l D cI cS cP ad A n σ σ1 r2 s3 s4 hC3) (cwV 2 hts gX10_readPerson_X10_digit rfl rfl rfl (by decide +kernel) ⟨Nat.le_of_ble_eq_true rfl, Nat.le_of_ble_eq_true rfl⟩) (z_preV hN hK hP hD (by decide) zm_0 rfl) rfl rfl hl.1 rfl (lv_room (Nat.le_of_ble_eq_true rfl)) dX10_readPerson_122 ⟨Nat.zero_le _, Nat.zero_le _⟩) hS (fun H locs hP hD hS => ?_)
        obtain ⟨g4, hF⟩ := zgd_inv hF
        obtain ⟨σ5, eσ5, hF⟩ := zlet_inv hF
        refine z_iast hx hb hK hP hD hS (by decide) (fun _ => (zm_a (n := 24) (by decide))) rfl g4 dX10_readPerson_125 (fun H locs hP hD hS => ?_)
        have hP : va_P D vwCl (zW (zm cI ad) 20 ad σ5) H := by rw [eσ5]; exact hP
        have hD : va_D A (zW (zm cI ad) 20 ad σ5) := by rw [eσ5]; exact hD
        refine lv_aload_n hx hb dX10_readPerson_126 rfl (lv_at hl 0 rfl) ?_
        refine z_get (ci := 9) (C := RX10) (T := TX10) (N := 32) hx hb hts iX10_readPerson_X10 hown hK hP (by decide) zm_0 rfl 16 (by decide) kX10_readPerson_f37 rfl (v := .ref (ad 10)) rfl dX10_readPerson_127 ?_
        refine lv_iload_n hx hb dX10_readPerson_130 rfl (lv_at hl 3 rfl) ?_
        refine lv_iload hx hb dX10_readPerson_131 (lv_at hl 4 rfl) ?_
        refine lv_iadd hx hb dX10_readPerson_133 ?_
        obtain ⟨g6, hF⟩ := zgd_inv hF
        refine z_iald hx hb hK hP (by decide) (zm_a (n := 24) (by decide)) rfl g6 dX10_readPerson_134 ?_
        refine lv_bipush (v := (-9 : Int32)) hx hb dX10_readPerson_135 (by decide) ?_
        refine lv_icmp_ne (tgt := 142) hx hb dX10_readPerson_137 (by decide) (fun b7 => ?_) (fun b7 => ?_)
        · have hF := zif_f b7 hF
          refine lv_iinc (v := (l4 + (1 : Int32))) (lv' := [(4, .int (l4 + (1 : Int32))), (0, .ref (ad 0)), (1, .int l1), (2, .int l2), (3, .int l3)]) hx hb dX10_readPerson_142 hl (k := 4) rfl rfl (by decide) rfl (fun ls hl => ?_)
          refine lv_goto (tgt := 93) hx hb dX10_readPerson_145 (by decide) ?_
          exact ih93 σ5 l1 l2 l3 (l4 + (1 : Int32)) _ _ _ hF hP hD hS (lv_sub hl [1, 2, 3, 4, 0] rfl)
        · have hF := zif_t b7 hF
          refine lv_iconst (v := (0 : Int32)) hx hb dX10_readPerson_140 (by decide) ?_
          exact z_zret hx hb hr hlocks (Or.inl rfl) hN hK hP hD hS hF dX10_readPerson_141
      intro σ l1 l2 l3 l4 H locs ls hF hP hD hS hl
      have hF : LBX10_readPerson_93 n   (zlp (LX10_readPerson_93 n) f93) σ l1 l2 l3 l4 = some (r0, σ') := hF
      unfold LBX10_readPerson_93 at hF
      refine lv_iload hx hb dX10_readPerson_93 (lv_at hl 4 rfl) ?_
      refine lv_iconst (v := (4 : Int32)) hx hb dX10_readPerson_95 (by decide) ?_
      refine lv_icmp_ge (tgt := 148) hx hb dX10_readPerson_96 (by decide) (fun b8 => ?_) (fun b8 => ?_)
      · have hF := zif_t b8 hF
        refine lv_aload_n hx hb dX10_readPerson_148 rfl (lv_at hl 0 rfl) ?_
        refine lv_dup hx hb dX10_readPerson_149 rfl ?_
        refine z_get (ci := 9) (C := RX10) (T := TX10) (N := 32) hx hb hts iX10_readPerson_X10 hown hK hP (by decide) zm_0 rfl 14 (by decide) kX10_readPerson_f104 rfl (v := .int (σ 0 14)) rfl dX10_readPerson_150 ?_
        refine lv_iconst (v := (1 : Int32)) hx hb dX10_readPerson_153 (by decide) ?_
        refine lv_iadd hx hb dX10_readPerson_154 ?_
        obtain ⟨σ9, eσ9, hF⟩ := zlet_inv hF
        refine z_put (ci := 9) (C := RX10) (T := TX10) (N := 32) hx hb hts iX10_readPerson_X10 tyX10 tyX10_ok nmX10 hown hK hP hD hS (by decide) zm_0 rfl 14 (by decide) kX10_readPerson_f104 rfl rfl rfl rfl (Nat.le_of_ble_eq_true rfl) zm_0 dX10_readPerson_155 (fun H locs hP hD hS => ?_)
        have hP : va_P D vwCl (zW (zm cI ad) 20 ad σ9) H := by rw [eσ9]; exact hP
        have hD : va_D A (zW (zm cI ad) 20 ad σ9) := by rw [eσ9]; exact hD
        refine lv_iconst (v := (1 : Int32)) hx hb dX10_readPerson_158 (by decide) ?_
        exact z_zret hx hb hr hlocks (Or.inr rfl) hN hK hP hD hS hF dX10_readPerson_159
      · have hF := zif_f b8 hF
        refine lv_aload_n hx hb dX10_readPerson_99 rfl (lv_at hl 0 rfl) ?_
        refine z_get (ci := 9) (C := RX10) (T := TX10) (N := 32) hx hb hts iX10_readPerson_X10 hown hK hP (by decide) zm_0 rfl 16 (by decide) kX10_readPerson_f37 rfl (v := .ref (ad 10)) rfl dX10_readPerson_100 ?_
        refine lv_iload_n hx hb dX10_readPerson_103 rfl (lv_at hl 3 rfl) ?_
        refine lv_iload hx hb dX10_readPerson_104 (lv_at hl 4 rfl) ?_
        refine lv_iadd hx hb dX10_readPerson_106 ?_
        refine lv_aload_n hx hb dX10_readPerson_107 rfl (lv_at hl 0 rfl) ?_
        refine lv_iload_n hx hb dX10_readPerson_108 rfl (lv_at hl 1 rfl) ?_
        refine lv_iload hx hb dX10_readPerson_109 (lv_at hl 4 rfl) ?_
        refine lv_iconst (v := (2 : Int32)) hx hb dX10_readPerson_111 (by decide) ?_
        refine lv_icmp_ne (tgt := 120) hx hb dX10_readPerson_112 (by decide) (fun b10 => ?_) (fun b10 => ?_)
        · have hF := zif_f b10 hF
          refine lv_bipush (v := (9 : Int32)) hx hb dX10_readPerson_120 (by decide) ?_
          exact hB122 σ l1 l2 l3 l4 (l3 + l4) l1 (9 : Int32) _ _ _ hF hP hD hS (lv_sub hl [0, 1, 2, 3, 4] rfl)
        · have hF := zif_t b10 hF
          refine lv_bipush (v := (7 : Int32)) hx hb dX10_readPerson_115 (by decide) ?_
          refine lv_goto (tgt := 122) hx hb dX10_readPerson_117 (by decide) ?_
          exact hB122 σ l1 l2 l3 l4 (l3 + l4) l1 (7 : Int32) _ _ _ hF hP hD hS (lv_sub hl [0, 1, 2, 3, 4] rfl)
  have hB66 : ∀ (σ : zMem) (l1 : Int32) (l2 : Int32) (l3 : Int32) (s1 : Int32) (s2 : Int32), ∀ (H : Heap) (locs : List Loc) (ls : Array Slot), BX10_readPerson_66 n σ l1 l2 l3 s1 s2 = some (r0, σ') → va_P D vwCl (zW (zm cI ad) 20 ad σ) H → va_D A (zW (zm cI ad) 20 ad σ) → va_S A s.heap H locs → lv_has ls 5 [(0, .ref (ad 0)), (1, .int l1), (2, .int l2), (3, .int l3)] → W p l e (headSpec wsX10_readPerson ({ frames := 2, cells := 0, slots := 0, locals := 44 } : Room)).room s m ([.ref (ad 0), .int p1] : List Value).toArray below meth c H locs 0 0 (MQ below (va_Qi (fun r u => r = r0 ∧ u = σ') (zB (zm cI ad) 20 ad D (zty cI cS cP) A) A) ([.ref (ad 0), .int p1] : List Value).toArray s 0 0 A) (F0 m 66 ls [.int s2, .int s1, .ref (ad 10)]) := by
    intro σ l1 l2 l3 s1 s2 H locs ls hF hP hD hS hl
    unfold BX10_readPerson_66 at hF
    obtain ⟨g11, hF⟩ := zgd_inv hF
    obtain ⟨σ12, eσ12, hF⟩ := zlet_inv hF
    refine z_iast hx hb hK hP hD hS (by decide) (fun _ => (zm_a (n := 24) (by decide))) rfl g11 dX10_readPerson_66 (fun H locs hP hD hS => ?_)
    have hP : va_P D vwCl (zW (zm cI ad) 20 ad σ12) H := by rw [eσ12]; exact hP
    have hD : va_D A (zW (zm cI ad) 20 ad σ12) := by rw [eσ12]; exact hD
    refine lv_aload_n hx hb dX10_readPerson_67 rfl (lv_at hl 0 rfl) ?_
    refine z_get (ci := 9) (C := RX10) (T := TX10) (N := 32) hx hb hts iX10_readPerson_X10 hown hK hP (by decide) zm_0 rfl 16 (by decide) kX10_readPerson_f37 rfl (v := .ref (ad 10)) rfl dX10_readPerson_68 ?_
    refine lv_iload_n hx hb dX10_readPerson_71 rfl (lv_at hl 3 rfl) ?_
    obtain ⟨g13, hF⟩ := zgd_inv hF
    refine z_iald hx hb hK hP (by decide) (zm_a (n := 24) (by decide)) rfl g13 dX10_readPerson_72 ?_
    refine lv_bipush (v := (-9 : Int32)) hx hb dX10_readPerson_73 (by decide) ?_
    refine lv_icmp_ne (tgt := 80) hx hb dX10_readPerson_75 (by decide) (fun b14 => ?_) (fun b14 => ?_)
    · have hF := zif_f b14 hF
      refine lv_aload_n hx hb dX10_readPerson_80 rfl (lv_at hl 0 rfl) ?_
      refine lv_dup hx hb dX10_readPerson_81 rfl ?_
      refine z_get (ci := 9) (C := RX10) (T := TX10) (N := 32) hx hb hts iX10_readPerson_X10 hown hK hP (by decide) zm_0 rfl 13 (by decide) kX10_readPerson_f80 rfl (v := .int (σ12 0 13)) rfl dX10_readPerson_82 ?_
      refine lv_iconst (v := (1 : Int32)) hx hb dX10_readPerson_85 (by decide) ?_
      refine lv_iadd hx hb dX10_readPerson_86 ?_
      obtain ⟨σ15, eσ15, hF⟩ := zlet_inv hF
      refine z_put (ci := 9) (C := RX10) (T := TX10) (N := 32) hx hb hts iX10_readPerson_X10 tyX10 tyX10_ok nmX10 hown hK hP hD hS (by decide) zm_0 rfl 13 (by decide) kX10_readPerson_f80 rfl rfl rfl rfl (Nat.le_of_ble_eq_true rfl) zm_0 dX10_readPerson_87 (fun H locs hP hD hS => ?_)
      have hP : va_P D vwCl (zW (zm cI ad) 20 ad σ15) H := by rw [eσ15]; exact hP
      have hD : va_D A (zW (zm cI ad) 20 ad σ15) := by rw [eσ15]; exact hD
      refine lv_iconst (v := (1 : Int32)) hx hb dX10_readPerson_90 (by decide) ?_
      refine lv_istore (lv' := [(4, .int (1 : Int32)), (0, .ref (ad 0)), (1, .int l1), (2, .int l2), (3, .int l3)]) hx hb dX10_readPerson_91 hl (by decide) rfl (fun ls hl => ?_)
      exact hB93 n σ15 l1 l2 l3 (1 : Int32) _ _ _ hF hP hD hS (lv_sub hl [1, 2, 3, 4, 0] rfl)
    · have hF := zif_t b14 hF
      refine lv_iconst (v := (0 : Int32)) hx hb dX10_readPerson_78 (by decide) ?_
      exact z_zret hx hb hr hlocks (Or.inl rfl) hN hK hP hD hS hF dX10_readPerson_79
  have hB21 : ∀ (σ : zMem) (l1 : Int32) (s0 : Int32), ∀ (H : Heap) (locs : List Loc) (ls : Array Slot), BX10_readPerson_21 n σ l1 s0 = some (r0, σ') → va_P D vwCl (zW (zm cI ad) 20 ad σ) H → va_D A (zW (zm cI ad) 20 ad σ) → va_S A s.heap H locs → lv_has ls 5 [(0, .ref (ad 0)), (1, .int l1)] → W p l e (headSpec wsX10_readPerson ({ frames := 2, cells := 0, slots := 0, locals := 44 } : Room)).room s m ([.ref (ad 0), .int p1] : List Value).toArray below meth c H locs 0 0 (MQ below (va_Qi (fun r u => r = r0 ∧ u = σ') (zB (zm cI ad) 20 ad D (zty cI cS cP) A) A) ([.ref (ad 0), .int p1] : List Value).toArray s 0 0 A) (F0 m 21 ls [.int s0]) := by
    intro σ l1 s0 H locs ls hF hP hD hS hl
    unfold BX10_readPerson_21 at hF
    refine lv_istore_n (lv' := [(2, .int s0), (0, .ref (ad 0)), (1, .int l1)]) hx hb dX10_readPerson_21 rfl hl (by decide) rfl (fun ls hl => ?_)
    refine lv_iconst (v := (4 : Int32)) hx hb dX10_readPerson_22 (by decide) ?_
    refine lv_aload_n hx hb dX10_readPerson_23 rfl (lv_at hl 1 rfl) ?_
    refine z_get (ci := 9) (C := RX10) (T := TX10) (N := 32) hx hb hts iX10_readPerson_X10 hown hK hP (by decide) zm_0 rfl 14 (by decide) kX10_readPerson_f104 rfl (v := .int (σ 0 14)) rfl dX10_readPerson_24 ?_
    refine lv_imul hx hb dX10_readPerson_27 ?_
    refine lv_istore_n (lv' := [(3, .int ((4 : Int32) * (σ 0 14))), (2, .int s0), (0, .ref (ad 0)), (1, .int l1)]) hx hb dX10_readPerson_28 rfl hl (by decide) rfl (fun ls hl => ?_)
    refine lv_aload_n hx hb dX10_readPerson_29 rfl (lv_at hl 2 rfl) ?_
    refine z_get (ci := 9) (C := RX10) (T := TX10) (N := 32) hx hb hts iX10_readPerson_X10 hown hK hP (by decide) zm_0 rfl 16 (by decide) kX10_readPerson_f37 rfl (v := .ref (ad 10)) rfl dX10_readPerson_30 ?_
    refine lv_iload_n hx hb dX10_readPerson_33 rfl (lv_at hl 0 rfl) ?_
    refine lv_iload_n hx hb dX10_readPerson_34 rfl (lv_at hl 1 rfl) ?_
    refine lv_bipush (v := (103 : Int32)) hx hb dX10_readPerson_35 (by decide) ?_
    refine lv_icmp_ne (tgt := 44) hx hb dX10_readPerson_37 (by decide) (fun b16 => ?_) (fun b16 => ?_)
    · have hF := zif_f b16 hF
      refine lv_iload_n hx hb dX10_readPerson_44 rfl (lv_at hl 1 rfl) ?_
      refine lv_bipush (v := (116 : Int32)) hx hb dX10_readPerson_45 (by decide) ?_
      refine lv_icmp_ne (tgt := 54) hx hb dX10_readPerson_47 (by decide) (fun b17 => ?_) (fun b17 => ?_)
      · have hF := zif_f b17 hF
        refine lv_iload_n hx hb dX10_readPerson_54 rfl (lv_at hl 1 rfl) ?_
        refine lv_bipush (v := (104 : Int32)) hx hb dX10_readPerson_55 (by decide) ?_
        refine lv_icmp_ne (tgt := 64) hx hb dX10_readPerson_57 (by decide) (fun b18 => ?_) (fun b18 => ?_)
        · have hF := zif_f b18 hF
          refine lv_bipush (v := (-9 : Int32)) hx hb dX10_readPerson_64 (by decide) ?_
          exact hB66 σ l1 s0 ((4 : Int32) * (σ 0 14)) ((4 : Int32) * (σ 0 14)) (-9 : Int32) _ _ _ hF hP hD hS (lv_sub hl [2, 3, 1, 0] rfl)
        · have hF := zif_t b18 hF
          refine lv_iconst (v := (2 : Int32)) hx hb dX10_readPerson_60 (by decide) ?_
          refine lv_goto (tgt := 66) hx hb dX10_readPerson_61 (by decide) ?_
          exact hB66 σ l1 s0 ((4 : Int32) * (σ 0 14)) ((4 : Int32) * (σ 0 14)) (2 : Int32) _ _ _ hF hP hD hS (lv_sub hl [2, 3, 1, 0] rfl)
      · have hF := zif_t b17 hF
        refine lv_iconst (v := (1 : Int32)) hx hb dX10_readPerson_50 (by decide) ?_
        refine lv_goto (tgt := 66) hx hb dX10_readPerson_51 (by decide) ?_
        exact hB66 σ l1 s0 ((4 : Int32) * (σ 0 14)) ((4 : Int32) * (σ 0 14)) (1 : Int32) _ _ _ hF hP hD hS (lv_sub hl [2, 3, 1, 0] rfl)
    · have hF := zif_t b16 hF
      refine lv_iconst (v := (0 : Int32)) hx hb dX10_readPerson_40 (by decide) ?_
      refine lv_goto (tgt := 66) hx hb dX10_readPerson_41 (by decide) ?_
      exact hB66 σ l1 s0 ((4 : Int32) * (σ 0 14)) ((4 : Int32) * (σ 0 14)) (0 : Int32) _ _ _ hF hP hD hS (lv_sub hl [2, 3, 1, 0] rfl)
  unfold FX10_readPerson at hF
  refine lv_aload_n hx hb dX10_readPerson_0 rfl (lv_at hl 0 rfl) ?_
  refine z_get (ci := 9) (C := RX10) (T := TX10) (N := 32) hx hb hts iX10_readPerson_X10 hown hK hP (by decide) zm_0 rfl 13 (by decide) kX10_readPerson_f80 rfl (v := .int (σ 0 13)) rfl dX10_readPerson_1 ?_
  refine lv_iload_n hx hb dX10_readPerson_4 rfl (lv_at hl 1 rfl) ?_
  refine lv_icmp_ge (tgt := 20) hx hb dX10_readPerson_5 (by decide) (fun b19 => ?_) (fun b19 => ?_)
  · have hF := zif_t b19 hF
    refine lv_iconst (v := (0 : Int32)) hx hb dX10_readPerson_20 (by decide) ?_
    exact hB21 σ p1 (0 : Int32) _ _ _ hF hP hD hS (lv_sub hl [0, 1] rfl)
  · have hF := zif_f b19 hF
    refine lv_aload_n hx hb dX10_readPerson_8 rfl (lv_at hl 0 rfl) ?_
    refine z_get (ci := 9) (C := RX10) (T := TX10) (N := 32) hx hb hts iX10_readPerson_X10 hown hK hP (by decide) zm_0 rfl 4 (by decide) kX10_readPerson_f16 rfl (v := .ref (ad 3)) rfl dX10_readPerson_9 ?_
    refine lv_aload_n hx hb dX10_readPerson_12 rfl (lv_at hl 0 rfl) ?_
    refine z_get (ci := 9) (C := RX10) (T := TX10) (N := 32) hx hb hts iX10_readPerson_X10 hown hK hP (by decide) zm_0 rfl 13 (by decide) kX10_readPerson_f80 rfl (v := .int (σ 0 13)) rfl dX10_readPerson_13 ?_
    obtain ⟨g20, hF⟩ := zgd_inv hF
    refine z_iald hx hb hK hP (by decide) (zm_a (n := 240) (by decide)) rfl g20 dX10_readPerson_16 ?_
    refine lv_goto (tgt := 21) hx hb dX10_readPerson_17 (by decide) ?_
    exact hB21 σ p1 (σ 3 ((σ 0 13) : Int32).toNatClampNeg) _ _ _ hF hP hD hS (lv_sub hl [0, 1] rfl)
theorem kX10_readProvince_f80 : Cond.fieldLink RX10 80 "LeastAskedModel" "at" "I" ∈ wsX10_readProvince := by decide +kernel
theorem kX10_readProvince_f104 : Cond.fieldLink RX10 104 "LeastAskedModel" "readPeople" "I" ∈ wsX10_readProvince := by decide +kernel
theorem kX10_readProvince_f34 : Cond.fieldLink RX10 34 "LeastAskedModel" "readWorths" "[I" ∈ wsX10_readProvince := by decide +kernel
theorem iX10_readProvince_X10 : ∀ w ∈ u_ws RX10 TX10 32, w ∈ wsX10_readProvince := fun _ h => List.mem_cons_of_mem _ (List.mem_append_right _ h)
set_option maxHeartbeats 4000000 in
set_option maxRecDepth 100000 in
theorem CX10_readProvince (l : Launch) (D : va_G) (cI cS cP : ClassId) (ad : Nat → Nat) (A : Nat → Prop) (n : Nat) (σ σ' : zMem) (r0 : Int32) (p1 : Int32) (hF : FX10_readProvince n σ p1 = some (r0, σ')) : Met l yX10_readProvince wsX10_readProvince ({ frames := 3, cells := 0, slots := 0, locals := 68 } : Room) (va_Pc [.ref (ad 0), .int p1] (zB (zm cI ad) 20 ad D (zty cI cS cP) A σ)) (va_Qi (fun r u => r = r0 ∧ u = σ') (zB (zm cI ad) 20 ad D (zty cI cS cP) A) A) 0 0 A := by
  refine Met.ofW (cc := cX10_readProvince) (maxL := 3) (ret := (some .boolean)) (by decide) rfl ?_
  intro p e s m args below meth c s₁ B hml hv
  obtain ⟨rfl, hP, hK, hD, hN⟩ := hv
  have hx := B.exec
  have hb := B.bytes
  have hr := B.returns
  have hts := atoms_spec (ws := wsX10_readProvince) B.pre
  have hown : s.vm.findClass RX10 = some m.cls := findClass_of_methodNamed B.named
  have hlocks := B.notSynchronized
  have hS : va_S A s.heap s.heap [] := va_S.rf
  have hl := lv_entry ([.ref (ad 0), .int p1]) (n := 3) (Nat.le_of_ble_eq_true rfl)
  rw [lg_entry_eq]
  generalize (lg_sl ([.ref (ad 0), .int p1]) ++ List.replicate (3 - (lg_sl ([.ref (ad 0), .int p1])).length) Slot.unset).toArray = ls at hl ⊢
  have hl : lv_has ls 3 [(0, .ref (ad 0)), (1, .int p1)] := hl
  clear B
  have hB101 : ∀ (σ : zMem) (l1 : Int32) (l2 : Int32), ∀ (H : Heap) (locs : List Loc) (ls : Array Slot), BX10_readProvince_101 n σ l1 l2 = some (r0, σ') → va_P D vwCl (zW (zm cI ad) 20 ad σ) H → va_D A (zW (zm cI ad) 20 ad σ) → va_S A s.heap H locs → lv_has ls 3 [(0, .ref (ad 0)), (1, .int l1), (2, .int l2)] → W p l e (headSpec wsX10_readProvince ({ frames := 3, cells := 0, slots := 0, locals := 68 } : Room)).room s m ([.ref (ad 0), .int p1] : List Value).toArray below meth c H locs 0 0 (MQ below (va_Qi (fun r u => r = r0 ∧ u = σ') (zB (zm cI ad) 20 ad D (zty cI cS cP) A) A) ([.ref (ad 0), .int p1] : List Value).toArray s 0 0 A) (F0 m 101 ls []) := by
    intro σ l1 l2 H locs ls hF hP hD hS hl
    unfold BX10_readProvince_101 at hF
    refine lv_aload_n hx hb dX10_readProvince_101 rfl (lv_at hl 0 rfl) ?_
    refine z_get (ci := 9) (C := RX10) (T := TX10) (N := 32) hx hb hts iX10_readProvince_X10 hown hK hP (by decide) zm_0 rfl 13 (by decide) kX10_readProvince_f80 rfl (v := .int (σ 0 13)) rfl dX10_readProvince_102 ?_
    refine lv_iload_n hx hb dX10_readProvince_105 rfl (lv_at hl 1 rfl) ?_
    refine lv_icmp_ne (tgt := 113) hx hb dX10_readProvince_106 (by decide) (fun b1 => ?_) (fun b1 => ?_)
    · have hF := zif_f b1 hF
      refine lv_iconst (v := (0 : Int32)) hx hb dX10_readProvince_113 (by decide) ?_
      exact z_zret hx hb hr hlocks (Or.inl rfl) hN hK hP hD hS hF dX10_readProvince_114
    · have hF := zif_t b1 hF
      refine lv_iconst (v := (1 : Int32)) hx hb dX10_readProvince_109 (by decide) ?_
      refine lv_goto (tgt := 114) hx hb dX10_readProvince_110 (by decide) ?_
      exact z_zret hx hb hr hlocks (Or.inr rfl) hN hK hP hD hS hF dX10_readProvince_114
  have hB56 : ∀ (f56 : Nat) (σ : zMem) (l1 : Int32) (l2 : Int32), ∀ (H : Heap) (locs : List Loc) (ls : Array Slot), zlp (LX10_readProvince_56 n) f56 (σ, l1, l2) = some (r0, σ') → va_P D vwCl (zW (zm cI ad) 20 ad σ) H → va_D A (zW (zm cI ad) 20 ad σ) → va_S A s.heap H locs → lv_has ls 3 [(0, .ref (ad 0)), (1, .int l1), (2, .int l2)] → W p l e (headSpec wsX10_readProvince ({ frames := 3, cells := 0, slots := 0, locals := 68 } : Room)).room s m ([.ref (ad 0), .int p1] : List Value).toArray below meth c H locs 0 0 (MQ below (va_Qi (fun r u => r = r0 ∧ u = σ') (zB (zm cI ad) 20 ad D (zty cI cS cP) A) A) ([.ref (ad 0), .int p1] : List Value).toArray s 0 0 A) (F0 m 56 ls []) := by
    intro f56
    induction f56 with
    | zero => intro σ l1 l2 H locs ls hF hP hD hS hl; exact (zlp_0 hF).elim
    | succ f56 ih56 =>
      have hB81 : ∀ (σ : zMem) (l1 : Int32) (l2 : Int32), ∀ (H : Heap) (locs : List Loc) (ls : Array Slot), BX10_readProvince_81 n (zlp (LX10_readProvince_56 n) f56) σ l1 l2 = some (r0, σ') → va_P D vwCl (zW (zm cI ad) 20 ad σ) H → va_D A (zW (zm cI ad) 20 ad σ) → va_S A s.heap H locs → lv_has ls 3 [(0, .ref (ad 0)), (1, .int l1), (2, .int l2)] → W p l e (headSpec wsX10_readProvince ({ frames := 3, cells := 0, slots := 0, locals := 68 } : Room)).room s m ([.ref (ad 0), .int p1] : List Value).toArray below meth c H locs 0 0 (MQ below (va_Qi (fun r u => r = r0 ∧ u = σ') (zB (zm cI ad) 20 ad D (zty cI cS cP) A) A) ([.ref (ad 0), .int p1] : List Value).toArray s 0 0 A) (F0 m 81 ls []) := by
        intro σ l1 l2 H locs ls hF hP hD hS hl
        unfold BX10_readProvince_81 at hF
        refine lv_aload_n hx hb dX10_readProvince_81 rfl (lv_at hl 0 rfl) ?_
        refine lv_iload_n hx hb dX10_readProvince_82 rfl (lv_at hl 1 rfl) ?_
        refine lv_bipush (v := (59 : Int32)) hx hb dX10_readProvince_83 (by decide) ?_
        obtain ⟨r3, σ2, hC4, hF⟩ := zbd_inv hF
        refine z_calli (va_runV (As := [.int l1, .int (59 : Int32)]) (rest := []) ⟨hx, hb, hml, hown, hts⟩ (CX10_isSign l D cI cS cP ad A n σ σ2 r3 l1 (59 : Int32) hC4) (cwV 2 hts gX10_readProvince_X10_isSign rfl rfl rfl (by decide +kernel) ⟨Nat.le_of_ble_eq_true rfl, Nat.le_of_ble_eq_true rfl⟩) (z_preV hN hK hP hD (by decide) zm_0 rfl) rfl rfl hl.1 rfl (lv_room (Nat.le_of_ble_eq_true rfl)) dX10_readProvince_85 ⟨Nat.zero_le _, Nat.zero_le _⟩) hS (fun H locs hP hD hS => ?_)
        refine lv_if_eq (tgt := 99) hx hb dX10_readProvince_88 (by decide) (fun b5 => ?_) (fun b5 => ?_)
        · have hF := zif_t b5 hF
          refine lv_iconst (v := (0 : Int32)) hx hb dX10_readProvince_99 (by decide) ?_
          exact z_zret hx hb hr hlocks (Or.inl rfl) hN hK hP hD hS hF dX10_readProvince_100
        · have hF := zif_f b5 hF
          refine lv_aload_n hx hb dX10_readProvince_91 rfl (lv_at hl 0 rfl) ?_
          refine lv_iload_n hx hb dX10_readProvince_92 rfl (lv_at hl 1 rfl) ?_
          obtain ⟨r7, σ6, hC8, hF⟩ := zbd_inv hF
          refine z_calli (va_runV (As := [.int l1]) (rest := []) ⟨hx, hb, hml, hown, hts⟩ (CX10_readPerson l D cI cS cP ad A n σ2 σ6 r7 l1 hC8) (cwV 1 hts gX10_readProvince_X10_readPerson rfl rfl rfl (by decide +kernel) ⟨Nat.le_of_ble_eq_true rfl, Nat.le_of_ble_eq_true rfl⟩) (z_preV hN hK hP hD (by decide) zm_0 rfl) rfl rfl hl.1 rfl (lv_room (Nat.le_of_ble_eq_true rfl)) dX10_readProvince_93 ⟨Nat.zero_le _, Nat.zero_le _⟩) hS (fun H locs hP hD hS => ?_)
          refine lv_if_ne (tgt := 56) hx hb dX10_readProvince_96 (by decide) (fun b9 => ?_) (fun b9 => ?_)
          · have hF := zif_f b9 hF
            exact ih56 σ6 l1 l2 _ _ _ hF hP hD hS (lv_sub hl [0, 1, 2] rfl)
          · have hF := zif_t b9 hF
            refine lv_iconst (v := (0 : Int32)) hx hb dX10_readProvince_99 (by decide) ?_
            exact z_zret hx hb hr hlocks (Or.inl rfl) hN hK hP hD hS hF dX10_readProvince_100
      intro σ l1 l2 H locs ls hF hP hD hS hl
      have hF : LBX10_readProvince_56 n   (zlp (LX10_readProvince_56 n) f56) σ l1 l2 = some (r0, σ') := hF
      unfold LBX10_readProvince_56 at hF
      refine lv_aload_n hx hb dX10_readProvince_56 rfl (lv_at hl 0 rfl) ?_
      refine z_get (ci := 9) (C := RX10) (T := TX10) (N := 32) hx hb hts iX10_readProvince_X10 hown hK hP (by decide) zm_0 rfl 14 (by decide) kX10_readProvince_f104 rfl (v := .int (σ 0 14)) rfl dX10_readProvince_57 ?_
      refine lv_iconst (v := (2 : Int32)) hx hb dX10_readProvince_60 (by decide) ?_
      refine lv_icmp_lt (tgt := 81) hx hb dX10_readProvince_61 (by decide) (fun b10 => ?_) (fun b10 => ?_)
      · have hF := zif_t b10 hF
        exact hB81 σ l1 l2 _ _ _ hF hP hD hS (lv_sub hl [0, 1, 2] rfl)
      · have hF := zif_f b10 hF
        refine lv_aload_n hx hb dX10_readProvince_64 rfl (lv_at hl 0 rfl) ?_
        refine z_get (ci := 9) (C := RX10) (T := TX10) (N := 32) hx hb hts iX10_readProvince_X10 hown hK hP (by decide) zm_0 rfl 14 (by decide) kX10_readProvince_f104 rfl (v := .int (σ 0 14)) rfl dX10_readProvince_65 ?_
        refine lv_bipush (v := (6 : Int32)) hx hb dX10_readProvince_68 (by decide) ?_
        refine lv_icmp_ge (tgt := 101) hx hb dX10_readProvince_70 (by decide) (fun b11 => ?_) (fun b11 => ?_)
        · have hF := zif_t b11 hF
          exact hB101 σ l1 l2 _ _ _ hF hP hD hS (lv_sub hl [0, 1, 2] rfl)
        · have hF := zif_f b11 hF
          refine lv_aload_n hx hb dX10_readProvince_73 rfl (lv_at hl 0 rfl) ?_
          refine z_get (ci := 9) (C := RX10) (T := TX10) (N := 32) hx hb hts iX10_readProvince_X10 hown hK hP (by decide) zm_0 rfl 13 (by decide) kX10_readProvince_f80 rfl (v := .int (σ 0 13)) rfl dX10_readProvince_74 ?_
          refine lv_iload_n hx hb dX10_readProvince_77 rfl (lv_at hl 1 rfl) ?_
          refine lv_icmp_ge (tgt := 101) hx hb dX10_readProvince_78 (by decide) (fun b12 => ?_) (fun b12 => ?_)
          · have hF := zif_t b12 hF
            exact hB101 σ l1 l2 _ _ _ hF hP hD hS (lv_sub hl [0, 1, 2] rfl)
          · have hF := zif_f b12 hF
            exact hB81 σ l1 l2 _ _ _ hF hP hD hS (lv_sub hl [0, 1, 2] rfl)
  have hB19 : ∀ (f19 : Nat) (σ : zMem) (l1 : Int32) (l2 : Int32), ∀ (H : Heap) (locs : List Loc) (ls : Array Slot), zlp (LX10_readProvince_19 n) f19 (σ, l1, l2) = some (r0, σ') → va_P D vwCl (zW (zm cI ad) 20 ad σ) H → va_D A (zW (zm cI ad) 20 ad σ) → va_S A s.heap H locs → lv_has ls 3 [(0, .ref (ad 0)), (1, .int l1), (2, .int l2)] → W p l e (headSpec wsX10_readProvince ({ frames := 3, cells := 0, slots := 0, locals := 68 } : Room)).room s m ([.ref (ad 0), .int p1] : List Value).toArray below meth c H locs 0 0 (MQ below (va_Qi (fun r u => r = r0 ∧ u = σ') (zB (zm cI ad) 20 ad D (zty cI cS cP) A) A) ([.ref (ad 0), .int p1] : List Value).toArray s 0 0 A) (F0 m 19 ls []) := by
    intro f19
    induction f19 with
    | zero => intro σ l1 l2 H locs ls hF hP hD hS hl; exact (zlp_0 hF).elim
    | succ f19 ih19 =>
      intro σ l1 l2 H locs ls hF hP hD hS hl
      have hF : LBX10_readProvince_19 n   (zlp (LX10_readProvince_19 n) f19) σ l1 l2 = some (r0, σ') := hF
      unfold LBX10_readProvince_19 at hF
      refine lv_iload_n hx hb dX10_readProvince_19 rfl (lv_at hl 2 rfl) ?_
      refine lv_iconst (v := (3 : Int32)) hx hb dX10_readProvince_20 (by decide) ?_
      refine lv_icmp_ge (tgt := 56) hx hb dX10_readProvince_21 (by decide) (fun b13 => ?_) (fun b13 => ?_)
      · have hF := zif_t b13 hF
        exact hB56 n σ l1 l2 _ _ _ hF hP hD hS (lv_sub hl [0, 1, 2] rfl)
      · have hF := zif_f b13 hF
        refine lv_aload_n hx hb dX10_readProvince_24 rfl (lv_at hl 0 rfl) ?_
        refine z_get (ci := 9) (C := RX10) (T := TX10) (N := 32) hx hb hts iX10_readProvince_X10 hown hK hP (by decide) zm_0 rfl 15 (by decide) kX10_readProvince_f34 rfl (v := .ref (ad 9)) rfl dX10_readProvince_25 ?_
        refine lv_iload_n hx hb dX10_readProvince_28 rfl (lv_at hl 2 rfl) ?_
        refine lv_aload_n hx hb dX10_readProvince_29 rfl (lv_at hl 0 rfl) ?_
        refine lv_iload_n hx hb dX10_readProvince_30 rfl (lv_at hl 1 rfl) ?_
        refine lv_bipush (v := (9 : Int32)) hx hb dX10_readProvince_31 (by decide) ?_
        obtain ⟨r15, σ14, hC16, hF⟩ := zbd_inv hF
        refine z_calli (va_runV (As := [.int l1, .int (9 : Int32)]) (rest := [.int l2, .ref (ad 9)]) ⟨hx, hb, hml, hown, hts⟩ (CX10_digit l D cI cS cP ad A n σ σ14 r15 l1 (9 : Int32) hC16) (cwV 2 hts gX10_readProvince_X10_digit rfl rfl rfl (by decide +kernel) ⟨Nat.le_of_ble_eq_true rfl, Nat.le_of_ble_eq_true rfl⟩) (z_preV hN hK hP hD (by decide) zm_0 rfl) rfl rfl hl.1 rfl (lv_room (Nat.le_of_ble_eq_true rfl)) dX10_readProvince_33 ⟨Nat.zero_le _, Nat.zero_le _⟩) hS (fun H locs hP hD hS => ?_)
        obtain ⟨g17, hF⟩ := zgd_inv hF
        obtain ⟨σ18, eσ18, hF⟩ := zlet_inv hF
        refine z_iast hx hb hK hP hD hS (by decide) (fun _ => (zm_a (n := 3) (by decide))) rfl g17 dX10_readProvince_36 (fun H locs hP hD hS => ?_)
        have hP : va_P D vwCl (zW (zm cI ad) 20 ad σ18) H := by rw [eσ18]; exact hP
        have hD : va_D A (zW (zm cI ad) 20 ad σ18) := by rw [eσ18]; exact hD
        refine lv_aload_n hx hb dX10_readProvince_37 rfl (lv_at hl 0 rfl) ?_
        refine z_get (ci := 9) (C := RX10) (T := TX10) (N := 32) hx hb hts iX10_readProvince_X10 hown hK hP (by decide) zm_0 rfl 15 (by decide) kX10_readProvince_f34 rfl (v := .ref (ad 9)) rfl dX10_readProvince_38 ?_
        refine lv_iload_n hx hb dX10_readProvince_41 rfl (lv_at hl 2 rfl) ?_
        obtain ⟨g19, hF⟩ := zgd_inv hF
        refine z_iald hx hb hK hP (by decide) (zm_a (n := 3) (by decide)) rfl g19 dX10_readProvince_42 ?_
        refine lv_bipush (v := (-9 : Int32)) hx hb dX10_readProvince_43 (by decide) ?_
        refine lv_icmp_ne (tgt := 50) hx hb dX10_readProvince_45 (by decide) (fun b20 => ?_) (fun b20 => ?_)
        · have hF := zif_f b20 hF
          refine lv_iinc (v := (l2 + (1 : Int32))) (lv' := [(2, .int (l2 + (1 : Int32))), (0, .ref (ad 0)), (1, .int l1)]) hx hb dX10_readProvince_50 hl (k := 2) rfl rfl (by decide) rfl (fun ls hl => ?_)
          refine lv_goto (tgt := 19) hx hb dX10_readProvince_53 (by decide) ?_
          exact ih19 σ18 l1 (l2 + (1 : Int32)) _ _ _ hF hP hD hS (lv_sub hl [1, 2, 0] rfl)
        · have hF := zif_t b20 hF
          refine lv_iconst (v := (0 : Int32)) hx hb dX10_readProvince_48 (by decide) ?_
          exact z_zret hx hb hr hlocks (Or.inl rfl) hN hK hP hD hS hF dX10_readProvince_49
  unfold FX10_readProvince at hF
  refine lv_aload_n hx hb dX10_readProvince_0 rfl (lv_at hl 0 rfl) ?_
  refine lv_iconst (v := (0 : Int32)) hx hb dX10_readProvince_1 (by decide) ?_
  obtain ⟨σ21, eσ21, hF⟩ := zlet_inv hF
  refine z_put (ci := 9) (C := RX10) (T := TX10) (N := 32) hx hb hts iX10_readProvince_X10 tyX10 tyX10_ok nmX10 hown hK hP hD hS (by decide) zm_0 rfl 14 (by decide) kX10_readProvince_f104 rfl rfl rfl rfl (Nat.le_of_ble_eq_true rfl) zm_0 dX10_readProvince_2 (fun H locs hP hD hS => ?_)
  have hP : va_P D vwCl (zW (zm cI ad) 20 ad σ21) H := by rw [eσ21]; exact hP
  have hD : va_D A (zW (zm cI ad) 20 ad σ21) := by rw [eσ21]; exact hD
  refine lv_aload_n hx hb dX10_readProvince_5 rfl (lv_at hl 0 rfl) ?_
  refine lv_iload_n hx hb dX10_readProvince_6 rfl (lv_at hl 1 rfl) ?_
  refine lv_bipush (v := (112 : Int32)) hx hb dX10_readProvince_7 (by decide) ?_
  obtain ⟨r23, σ22, hC24, hF⟩ := zbd_inv hF
  refine z_calli (va_runV (As := [.int p1, .int (112 : Int32)]) (rest := []) ⟨hx, hb, hml, hown, hts⟩ (CX10_isSign l D cI cS cP ad A n σ21 σ22 r23 p1 (112 : Int32) hC24) (cwV 2 hts gX10_readProvince_X10_isSign rfl rfl rfl (by decide +kernel) ⟨Nat.le_of_ble_eq_true rfl, Nat.le_of_ble_eq_true rfl⟩) (z_preV hN hK hP hD (by decide) zm_0 rfl) rfl rfl hl.1 rfl (lv_room (Nat.le_of_ble_eq_true rfl)) dX10_readProvince_9 ⟨Nat.zero_le _, Nat.zero_le _⟩) hS (fun H locs hP hD hS => ?_)
  refine lv_if_ne (tgt := 17) hx hb dX10_readProvince_12 (by decide) (fun b25 => ?_) (fun b25 => ?_)
  · have hF := zif_f b25 hF
    refine lv_iconst (v := (0 : Int32)) hx hb dX10_readProvince_17 (by decide) ?_
    refine lv_istore_n (lv' := [(2, .int (0 : Int32)), (0, .ref (ad 0)), (1, .int p1)]) hx hb dX10_readProvince_18 rfl hl (by decide) rfl (fun ls hl => ?_)
    exact hB19 n σ22 p1 (0 : Int32) _ _ _ hF hP hD hS (lv_sub hl [1, 2, 0] rfl)
  · have hF := zif_t b25 hF
    refine lv_iconst (v := (0 : Int32)) hx hb dX10_readProvince_15 (by decide) ?_
    exact z_zret hx hb hr hlocks (Or.inl rfl) hN hK hP hD hS hF dX10_readProvince_16
theorem kX10_takeProvince_f77 : Cond.fieldLink RX10 77 "LeastAskedModel" "people" "I" ∈ wsX10_takeProvince := by decide +kernel
theorem kX10_takeProvince_f107 : Cond.fieldLink RX10 107 "LeastAskedModel" "questions" "I" ∈ wsX10_takeProvince := by decide +kernel
theorem kX10_takeProvince_f110 : Cond.fieldLink RX10 110 "LeastAskedModel" "allBrought" "I" ∈ wsX10_takeProvince := by decide +kernel
theorem kX10_takeProvince_f113 : Cond.fieldLink RX10 113 "LeastAskedModel" "readings" "I" ∈ wsX10_takeProvince := by decide +kernel
theorem kX10_takeProvince_f22 : Cond.fieldLink RX10 22 "LeastAskedModel" "kind" "[I" ∈ wsX10_takeProvince := by decide +kernel
theorem kX10_takeProvince_f37 : Cond.fieldLink RX10 37 "LeastAskedModel" "read" "[I" ∈ wsX10_takeProvince := by decide +kernel
theorem kX10_takeProvince_f25 : Cond.fieldLink RX10 25 "LeastAskedModel" "asked" "[I" ∈ wsX10_takeProvince := by decide +kernel
theorem kX10_takeProvince_f28 : Cond.fieldLink RX10 28 "LeastAskedModel" "knows" "[I" ∈ wsX10_takeProvince := by decide +kernel
theorem kX10_takeProvince_f31 : Cond.fieldLink RX10 31 "LeastAskedModel" "wit" "[I" ∈ wsX10_takeProvince := by decide +kernel
theorem kX10_takeProvince_f104 : Cond.fieldLink RX10 104 "LeastAskedModel" "readPeople" "I" ∈ wsX10_takeProvince := by decide +kernel
theorem kX10_takeProvince_f19 : Cond.fieldLink RX10 19 "LeastAskedModel" "worths" "[I" ∈ wsX10_takeProvince := by decide +kernel
theorem kX10_takeProvince_f34 : Cond.fieldLink RX10 34 "LeastAskedModel" "readWorths" "[I" ∈ wsX10_takeProvince := by decide +kernel
theorem iX10_takeProvince_X10 : ∀ w ∈ u_ws RX10 TX10 32, w ∈ wsX10_takeProvince := fun _ h => List.mem_cons_of_mem _ (List.mem_append_right _ h)
set_option maxHeartbeats 4000000 in
set_option maxRecDepth 100000 in
theorem CX10_takeProvince (l : Launch) (D : va_G) (cI cS cP : ClassId) (ad : Nat → Nat) (A : Nat → Prop) (n : Nat) (σ σ' : zMem) (r0 : Int32) (hF : FX10_takeProvince n σ = some (r0, σ')) : Met l yX10_takeProvince wsX10_takeProvince ({ frames := 0, cells := 0, slots := 0, locals := 0 } : Room) (va_Pc [.ref (ad 0)] (zB (zm cI ad) 20 ad D (zty cI cS cP) A σ)) (va_Qv (fun u => u = σ') (zB (zm cI ad) 20 ad D (zty cI cS cP) A) A) 0 0 A := by
  refine Met.ofW (cc := cX10_takeProvince) (maxL := 2) (ret := none) (by decide) rfl ?_
  intro p e s m args below meth c s₁ B hml hv
  obtain ⟨rfl, hP, hK, hD, hN⟩ := hv
  have hx := B.exec
  have hb := B.bytes
  have hr := B.returns
  have hts := atoms_spec (ws := wsX10_takeProvince) B.pre
  have hown : s.vm.findClass RX10 = some m.cls := findClass_of_methodNamed B.named
  have hlocks := B.notSynchronized
  have hS : va_S A s.heap s.heap [] := va_S.rf
  have hl := lv_entry ([.ref (ad 0)]) (n := 2) (Nat.le_of_ble_eq_true rfl)
  rw [lg_entry_eq]
  generalize (lg_sl ([.ref (ad 0)]) ++ List.replicate (2 - (lg_sl ([.ref (ad 0)])).length) Slot.unset).toArray = ls at hl ⊢
  have hl : lv_has ls 2 [(0, .ref (ad 0))] := hl
  clear B
  have hB35 : ∀ (f35 : Nat) (σ : zMem) (l1 : Int32), ∀ (H : Heap) (locs : List Loc) (ls : Array Slot), zlp (LX10_takeProvince_35 n) f35 (σ, l1) = some (r0, σ') → va_P D vwCl (zW (zm cI ad) 20 ad σ) H → va_D A (zW (zm cI ad) 20 ad σ) → va_S A s.heap H locs → lv_has ls 2 [(0, .ref (ad 0)), (1, .int l1)] → W p l e (headSpec wsX10_takeProvince ({ frames := 0, cells := 0, slots := 0, locals := 0 } : Room)).room s m ([.ref (ad 0)] : List Value).toArray below meth c H locs 0 0 (MQ below (va_Qv (fun u => u = σ') (zB (zm cI ad) 20 ad D (zty cI cS cP) A) A) ([.ref (ad 0)] : List Value).toArray s 0 0 A) (F0 m 35 ls []) := by
    intro f35
    induction f35 with
    | zero => intro σ l1 H locs ls hF hP hD hS hl; exact (zlp_0 hF).elim
    | succ f35 ih35 =>
      intro σ l1 H locs ls hF hP hD hS hl
      have hF : LBX10_takeProvince_35 n   (zlp (LX10_takeProvince_35 n) f35) σ l1 = some (r0, σ') := hF
      unfold LBX10_takeProvince_35 at hF
      refine lv_iload_n hx hb dX10_takeProvince_35 rfl (lv_at hl 1 rfl) ?_
      refine lv_aload_n hx hb dX10_takeProvince_36 rfl (lv_at hl 0 rfl) ?_
      refine z_get (ci := 9) (C := RX10) (T := TX10) (N := 32) hx hb hts iX10_takeProvince_X10 hown hK hP (by decide) zm_0 rfl 5 (by decide) kX10_takeProvince_f77 rfl (v := .int (σ 0 5)) rfl dX10_takeProvince_37 ?_
      refine lv_icmp_ge (tgt := 111) hx hb dX10_takeProvince_40 (by decide) (fun b1 => ?_) (fun b1 => ?_)
      · have hF := zif_t b1 hF
        refine lv_aload_n hx hb dX10_takeProvince_111 rfl (lv_at hl 0 rfl) ?_
        refine lv_iconst (v := (0 : Int32)) hx hb dX10_takeProvince_112 (by decide) ?_
        obtain ⟨σ2, eσ2, hF⟩ := zlet_inv hF
        refine z_put (ci := 9) (C := RX10) (T := TX10) (N := 32) hx hb hts iX10_takeProvince_X10 tyX10 tyX10_ok nmX10 hown hK hP hD hS (by decide) zm_0 rfl 6 (by decide) kX10_takeProvince_f107 rfl rfl rfl rfl (Nat.le_of_ble_eq_true rfl) zm_0 dX10_takeProvince_113 (fun H locs hP hD hS => ?_)
        have hP : va_P D vwCl (zW (zm cI ad) 20 ad σ2) H := by rw [eσ2]; exact hP
        have hD : va_D A (zW (zm cI ad) 20 ad σ2) := by rw [eσ2]; exact hD
        refine lv_aload_n hx hb dX10_takeProvince_116 rfl (lv_at hl 0 rfl) ?_
        refine lv_iconst (v := (0 : Int32)) hx hb dX10_takeProvince_117 (by decide) ?_
        obtain ⟨σ3, eσ3, hF⟩ := zlet_inv hF
        refine z_put (ci := 9) (C := RX10) (T := TX10) (N := 32) hx hb hts iX10_takeProvince_X10 tyX10 tyX10_ok nmX10 hown hK hP hD hS (by decide) zm_0 rfl 7 (by decide) kX10_takeProvince_f110 rfl rfl rfl rfl (Nat.le_of_ble_eq_true rfl) zm_0 dX10_takeProvince_118 (fun H locs hP hD hS => ?_)
        have hP : va_P D vwCl (zW (zm cI ad) 20 ad σ3) H := by rw [eσ3]; exact hP
        have hD : va_D A (zW (zm cI ad) 20 ad σ3) := by rw [eσ3]; exact hD
        refine lv_aload_n hx hb dX10_takeProvince_121 rfl (lv_at hl 0 rfl) ?_
        refine lv_iconst (v := (0 : Int32)) hx hb dX10_takeProvince_122 (by decide) ?_
        obtain ⟨σ4, eσ4, hF⟩ := zlet_inv hF
        refine z_put (ci := 9) (C := RX10) (T := TX10) (N := 32) hx hb hts iX10_takeProvince_X10 tyX10 tyX10_ok nmX10 hown hK hP hD hS (by decide) zm_0 rfl 28 (by decide) kX10_takeProvince_f113 rfl rfl rfl rfl (Nat.le_of_ble_eq_true rfl) zm_0 dX10_takeProvince_123 (fun H locs hP hD hS => ?_)
        have hP : va_P D vwCl (zW (zm cI ad) 20 ad σ4) H := by rw [eσ4]; exact hP
        have hD : va_D A (zW (zm cI ad) 20 ad σ4) := by rw [eσ4]; exact hD
        exact z_vret hx hb hr hlocks hN hK hP hD hS hF dX10_takeProvince_126
      · have hF := zif_f b1 hF
        refine lv_aload_n hx hb dX10_takeProvince_43 rfl (lv_at hl 0 rfl) ?_
        refine z_get (ci := 9) (C := RX10) (T := TX10) (N := 32) hx hb hts iX10_takeProvince_X10 hown hK hP (by decide) zm_0 rfl 9 (by decide) kX10_takeProvince_f22 rfl (v := .ref (ad 5)) rfl dX10_takeProvince_44 ?_
        refine lv_iload_n hx hb dX10_takeProvince_47 rfl (lv_at hl 1 rfl) ?_
        refine lv_aload_n hx hb dX10_takeProvince_48 rfl (lv_at hl 0 rfl) ?_
        refine z_get (ci := 9) (C := RX10) (T := TX10) (N := 32) hx hb hts iX10_takeProvince_X10 hown hK hP (by decide) zm_0 rfl 16 (by decide) kX10_takeProvince_f37 rfl (v := .ref (ad 10)) rfl dX10_takeProvince_49 ?_
        refine lv_iconst (v := (4 : Int32)) hx hb dX10_takeProvince_52 (by decide) ?_
        refine lv_iload_n hx hb dX10_takeProvince_53 rfl (lv_at hl 1 rfl) ?_
        refine lv_imul hx hb dX10_takeProvince_54 ?_
        obtain ⟨g5, hF⟩ := zgd_inv hF
        refine z_iald hx hb hK hP (by decide) (zm_a (n := 24) (by decide)) rfl g5 dX10_takeProvince_55 ?_
        obtain ⟨g6, hF⟩ := zgd_inv hF
        obtain ⟨σ7, eσ7, hF⟩ := zlet_inv hF
        refine z_iast hx hb hK hP hD hS (by decide) (fun _ => (zm_a (n := 6) (by decide))) rfl g6 dX10_takeProvince_56 (fun H locs hP hD hS => ?_)
        have hP : va_P D vwCl (zW (zm cI ad) 20 ad σ7) H := by rw [eσ7]; exact hP
        have hD : va_D A (zW (zm cI ad) 20 ad σ7) := by rw [eσ7]; exact hD
        refine lv_aload_n hx hb dX10_takeProvince_57 rfl (lv_at hl 0 rfl) ?_
        refine z_get (ci := 9) (C := RX10) (T := TX10) (N := 32) hx hb hts iX10_takeProvince_X10 hown hK hP (by decide) zm_0 rfl 10 (by decide) kX10_takeProvince_f25 rfl (v := .ref (ad 6)) rfl dX10_takeProvince_58 ?_
        refine lv_iload_n hx hb dX10_takeProvince_61 rfl (lv_at hl 1 rfl) ?_
        refine lv_aload_n hx hb dX10_takeProvince_62 rfl (lv_at hl 0 rfl) ?_
        refine z_get (ci := 9) (C := RX10) (T := TX10) (N := 32) hx hb hts iX10_takeProvince_X10 hown hK hP (by decide) zm_0 rfl 16 (by decide) kX10_takeProvince_f37 rfl (v := .ref (ad 10)) rfl dX10_takeProvince_63 ?_
        refine lv_iconst (v := (4 : Int32)) hx hb dX10_takeProvince_66 (by decide) ?_
        refine lv_iload_n hx hb dX10_takeProvince_67 rfl (lv_at hl 1 rfl) ?_
        refine lv_imul hx hb dX10_takeProvince_68 ?_
        refine lv_iconst (v := (1 : Int32)) hx hb dX10_takeProvince_69 (by decide) ?_
        refine lv_iadd hx hb dX10_takeProvince_70 ?_
        obtain ⟨g8, hF⟩ := zgd_inv hF
        refine z_iald hx hb hK hP (by decide) (zm_a (n := 24) (by decide)) rfl g8 dX10_takeProvince_71 ?_
        obtain ⟨g9, hF⟩ := zgd_inv hF
        obtain ⟨σ10, eσ10, hF⟩ := zlet_inv hF
        refine z_iast hx hb hK hP hD hS (by decide) (fun _ => (zm_a (n := 6) (by decide))) rfl g9 dX10_takeProvince_72 (fun H locs hP hD hS => ?_)
        have hP : va_P D vwCl (zW (zm cI ad) 20 ad σ10) H := by rw [eσ10]; exact hP
        have hD : va_D A (zW (zm cI ad) 20 ad σ10) := by rw [eσ10]; exact hD
        refine lv_aload_n hx hb dX10_takeProvince_73 rfl (lv_at hl 0 rfl) ?_
        refine z_get (ci := 9) (C := RX10) (T := TX10) (N := 32) hx hb hts iX10_takeProvince_X10 hown hK hP (by decide) zm_0 rfl 11 (by decide) kX10_takeProvince_f28 rfl (v := .ref (ad 7)) rfl dX10_takeProvince_74 ?_
        refine lv_iload_n hx hb dX10_takeProvince_77 rfl (lv_at hl 1 rfl) ?_
        refine lv_aload_n hx hb dX10_takeProvince_78 rfl (lv_at hl 0 rfl) ?_
        refine z_get (ci := 9) (C := RX10) (T := TX10) (N := 32) hx hb hts iX10_takeProvince_X10 hown hK hP (by decide) zm_0 rfl 16 (by decide) kX10_takeProvince_f37 rfl (v := .ref (ad 10)) rfl dX10_takeProvince_79 ?_
        refine lv_iconst (v := (4 : Int32)) hx hb dX10_takeProvince_82 (by decide) ?_
        refine lv_iload_n hx hb dX10_takeProvince_83 rfl (lv_at hl 1 rfl) ?_
        refine lv_imul hx hb dX10_takeProvince_84 ?_
        refine lv_iconst (v := (2 : Int32)) hx hb dX10_takeProvince_85 (by decide) ?_
        refine lv_iadd hx hb dX10_takeProvince_86 ?_
        obtain ⟨g11, hF⟩ := zgd_inv hF
        refine z_iald hx hb hK hP (by decide) (zm_a (n := 24) (by decide)) rfl g11 dX10_takeProvince_87 ?_
        obtain ⟨g12, hF⟩ := zgd_inv hF
        obtain ⟨σ13, eσ13, hF⟩ := zlet_inv hF
        refine z_iast hx hb hK hP hD hS (by decide) (fun _ => (zm_a (n := 6) (by decide))) rfl g12 dX10_takeProvince_88 (fun H locs hP hD hS => ?_)
        have hP : va_P D vwCl (zW (zm cI ad) 20 ad σ13) H := by rw [eσ13]; exact hP
        have hD : va_D A (zW (zm cI ad) 20 ad σ13) := by rw [eσ13]; exact hD
        refine lv_aload_n hx hb dX10_takeProvince_89 rfl (lv_at hl 0 rfl) ?_
        refine z_get (ci := 9) (C := RX10) (T := TX10) (N := 32) hx hb hts iX10_takeProvince_X10 hown hK hP (by decide) zm_0 rfl 12 (by decide) kX10_takeProvince_f31 rfl (v := .ref (ad 8)) rfl dX10_takeProvince_90 ?_
        refine lv_iload_n hx hb dX10_takeProvince_93 rfl (lv_at hl 1 rfl) ?_
        refine lv_aload_n hx hb dX10_takeProvince_94 rfl (lv_at hl 0 rfl) ?_
        refine z_get (ci := 9) (C := RX10) (T := TX10) (N := 32) hx hb hts iX10_takeProvince_X10 hown hK hP (by decide) zm_0 rfl 16 (by decide) kX10_takeProvince_f37 rfl (v := .ref (ad 10)) rfl dX10_takeProvince_95 ?_
        refine lv_iconst (v := (4 : Int32)) hx hb dX10_takeProvince_98 (by decide) ?_
        refine lv_iload_n hx hb dX10_takeProvince_99 rfl (lv_at hl 1 rfl) ?_
        refine lv_imul hx hb dX10_takeProvince_100 ?_
        refine lv_iconst (v := (3 : Int32)) hx hb dX10_takeProvince_101 (by decide) ?_
        refine lv_iadd hx hb dX10_takeProvince_102 ?_
        obtain ⟨g14, hF⟩ := zgd_inv hF
        refine z_iald hx hb hK hP (by decide) (zm_a (n := 24) (by decide)) rfl g14 dX10_takeProvince_103 ?_
        obtain ⟨g15, hF⟩ := zgd_inv hF
        obtain ⟨σ16, eσ16, hF⟩ := zlet_inv hF
        refine z_iast hx hb hK hP hD hS (by decide) (fun _ => (zm_a (n := 6) (by decide))) rfl g15 dX10_takeProvince_104 (fun H locs hP hD hS => ?_)
        have hP : va_P D vwCl (zW (zm cI ad) 20 ad σ16) H := by rw [eσ16]; exact hP
        have hD : va_D A (zW (zm cI ad) 20 ad σ16) := by rw [eσ16]; exact hD
        refine lv_iinc (v := (l1 + (1 : Int32))) (lv' := [(1, .int (l1 + (1 : Int32))), (0, .ref (ad 0))]) hx hb dX10_takeProvince_105 hl (k := 1) rfl rfl (by decide) rfl (fun ls hl => ?_)
        refine lv_goto (tgt := 35) hx hb dX10_takeProvince_108 (by decide) ?_
        exact ih35 σ16 (l1 + (1 : Int32)) _ _ _ hF hP hD hS (lv_sub hl [1, 0] rfl)
  have hB2 : ∀ (f2 : Nat) (σ : zMem) (l1 : Int32), ∀ (H : Heap) (locs : List Loc) (ls : Array Slot), zlp (LX10_takeProvince_2 n) f2 (σ, l1) = some (r0, σ') → va_P D vwCl (zW (zm cI ad) 20 ad σ) H → va_D A (zW (zm cI ad) 20 ad σ) → va_S A s.heap H locs → lv_has ls 2 [(0, .ref (ad 0)), (1, .int l1)] → W p l e (headSpec wsX10_takeProvince ({ frames := 0, cells := 0, slots := 0, locals := 0 } : Room)).room s m ([.ref (ad 0)] : List Value).toArray below meth c H locs 0 0 (MQ below (va_Qv (fun u => u = σ') (zB (zm cI ad) 20 ad D (zty cI cS cP) A) A) ([.ref (ad 0)] : List Value).toArray s 0 0 A) (F0 m 2 ls []) := by
    intro f2
    induction f2 with
    | zero => intro σ l1 H locs ls hF hP hD hS hl; exact (zlp_0 hF).elim
    | succ f2 ih2 =>
      intro σ l1 H locs ls hF hP hD hS hl
      have hF : LBX10_takeProvince_2 n   (zlp (LX10_takeProvince_2 n) f2) σ l1 = some (r0, σ') := hF
      unfold LBX10_takeProvince_2 at hF
      refine lv_iload_n hx hb dX10_takeProvince_2 rfl (lv_at hl 1 rfl) ?_
      refine lv_iconst (v := (3 : Int32)) hx hb dX10_takeProvince_3 (by decide) ?_
      refine lv_icmp_ge (tgt := 25) hx hb dX10_takeProvince_4 (by decide) (fun b17 => ?_) (fun b17 => ?_)
      · have hF := zif_t b17 hF
        refine lv_aload_n hx hb dX10_takeProvince_25 rfl (lv_at hl 0 rfl) ?_
        refine lv_aload_n hx hb dX10_takeProvince_26 rfl (lv_at hl 0 rfl) ?_
        refine z_get (ci := 9) (C := RX10) (T := TX10) (N := 32) hx hb hts iX10_takeProvince_X10 hown hK hP (by decide) zm_0 rfl 14 (by decide) kX10_takeProvince_f104 rfl (v := .int (σ 0 14)) rfl dX10_takeProvince_27 ?_
        obtain ⟨σ18, eσ18, hF⟩ := zlet_inv hF
        refine z_put (ci := 9) (C := RX10) (T := TX10) (N := 32) hx hb hts iX10_takeProvince_X10 tyX10 tyX10_ok nmX10 hown hK hP hD hS (by decide) zm_0 rfl 5 (by decide) kX10_takeProvince_f77 rfl rfl rfl rfl (Nat.le_of_ble_eq_true rfl) zm_0 dX10_takeProvince_30 (fun H locs hP hD hS => ?_)
        have hP : va_P D vwCl (zW (zm cI ad) 20 ad σ18) H := by rw [eσ18]; exact hP
        have hD : va_D A (zW (zm cI ad) 20 ad σ18) := by rw [eσ18]; exact hD
        refine lv_iconst (v := (0 : Int32)) hx hb dX10_takeProvince_33 (by decide) ?_
        refine lv_istore_n (lv' := [(1, .int (0 : Int32)), (0, .ref (ad 0))]) hx hb dX10_takeProvince_34 rfl hl (by decide) rfl (fun ls hl => ?_)
        exact hB35 n σ18 (0 : Int32) _ _ _ hF hP hD hS (lv_sub hl [1, 0] rfl)
      · have hF := zif_f b17 hF
        refine lv_aload_n hx hb dX10_takeProvince_7 rfl (lv_at hl 0 rfl) ?_
        refine z_get (ci := 9) (C := RX10) (T := TX10) (N := 32) hx hb hts iX10_takeProvince_X10 hown hK hP (by decide) zm_0 rfl 8 (by decide) kX10_takeProvince_f19 rfl (v := .ref (ad 4)) rfl dX10_takeProvince_8 ?_
        refine lv_iload_n hx hb dX10_takeProvince_11 rfl (lv_at hl 1 rfl) ?_
        refine lv_aload_n hx hb dX10_takeProvince_12 rfl (lv_at hl 0 rfl) ?_
        refine z_get (ci := 9) (C := RX10) (T := TX10) (N := 32) hx hb hts iX10_takeProvince_X10 hown hK hP (by decide) zm_0 rfl 15 (by decide) kX10_takeProvince_f34 rfl (v := .ref (ad 9)) rfl dX10_takeProvince_13 ?_
        refine lv_iload_n hx hb dX10_takeProvince_16 rfl (lv_at hl 1 rfl) ?_
        obtain ⟨g19, hF⟩ := zgd_inv hF
        refine z_iald hx hb hK hP (by decide) (zm_a (n := 3) (by decide)) rfl g19 dX10_takeProvince_17 ?_
        obtain ⟨g20, hF⟩ := zgd_inv hF
        obtain ⟨σ21, eσ21, hF⟩ := zlet_inv hF
        refine z_iast hx hb hK hP hD hS (by decide) (fun _ => (zm_a (n := 3) (by decide))) rfl g20 dX10_takeProvince_18 (fun H locs hP hD hS => ?_)
        have hP : va_P D vwCl (zW (zm cI ad) 20 ad σ21) H := by rw [eσ21]; exact hP
        have hD : va_D A (zW (zm cI ad) 20 ad σ21) := by rw [eσ21]; exact hD
        refine lv_iinc (v := (l1 + (1 : Int32))) (lv' := [(1, .int (l1 + (1 : Int32))), (0, .ref (ad 0))]) hx hb dX10_takeProvince_19 hl (k := 1) rfl rfl (by decide) rfl (fun ls hl => ?_)
        refine lv_goto (tgt := 2) hx hb dX10_takeProvince_22 (by decide) ?_
        exact ih2 σ21 (l1 + (1 : Int32)) _ _ _ hF hP hD hS (lv_sub hl [1, 0] rfl)
  unfold FX10_takeProvince at hF
  refine lv_iconst (v := (0 : Int32)) hx hb dX10_takeProvince_0 (by decide) ?_
  refine lv_istore_n (lv' := [(1, .int (0 : Int32)), (0, .ref (ad 0))]) hx hb dX10_takeProvince_1 rfl hl (by decide) rfl (fun ls hl => ?_)
  exact hB2 n σ (0 : Int32) _ _ _ hF hP hD hS (lv_sub hl [1, 0] rfl)
