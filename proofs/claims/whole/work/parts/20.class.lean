/-! ===== contracts: X0_begin, X0_gooseherdTelling, X0_twinTelling, X0_hermitTelling, X0_telling, X0_greeting, X9_isBelow, X4_hasPerson, X2_saying, X2_isKnowing, X4_bringing, X1_gain, X1_consider, X1_give, X2_becomeLike, X4_first, J6_bitCount_0f7a4 ===== -/
theorem kX0_begin_f9 : Cond.fieldLink RX0 9 "LeastAsked$Bodies" "left" "I" ∈ wsX0_begin := by decide +kernel
theorem iX0_begin_X0 : ∀ w ∈ u_ws RX0 TX0 1, w ∈ wsX0_begin := fun _ h => List.mem_cons_of_mem _ (List.mem_append_right _ h)
set_option maxHeartbeats 4000000 in
set_option maxRecDepth 100000 in
theorem CX0_begin (l : Launch) (D : va_G) (cI cS cP : ClassId) (ad : Nat → Nat) (A : Nat → Prop) (n : Nat) (σ σ' : zMem) (r0 : Int32) (o : Nat) (p1 : Int32) (ho : zk o = 0) (hF : FX0_begin n o σ p1 = some (r0, σ')) : Met l yX0_begin wsX0_begin ({ frames := 0, cells := 0, slots := 0, locals := 0 } : Room) (va_Pc [.ref (ad o), .int p1] (zB (zx cI cS cP ad) 41 ad D (zty cI cS cP) A σ)) (va_Qv (fun u => u = σ') (zB (zx cI cS cP ad) 41 ad D (zty cI cS cP) A) A) 0 0 A := by
  refine Met.ofW (cc := cX0_begin) (maxL := 2) (ret := none) (by decide) rfl ?_
  intro p e s m args below meth c s₁ B hml hv
  obtain ⟨rfl, hP, hK, hD, hN⟩ := hv
  have hx := B.exec
  have hb := B.bytes
  have hr := B.returns
  have hts := atoms_spec (ws := wsX0_begin) B.pre
  have hown : s.vm.findClass RX0 = some m.cls := findClass_of_methodNamed B.named
  have hlocks := B.notSynchronized
  have hS : va_S A s.heap s.heap [] := va_S.rf
  have hl := lv_entry ([.ref (ad o), .int p1]) (n := 2) (Nat.le_of_ble_eq_true rfl)
  rw [lg_entry_eq]
  generalize (lg_sl ([.ref (ad o), .int p1]) ++ List.replicate (2 - (lg_sl ([.ref (ad o), .int p1])).length) Slot.unset).toArray = ls at hl ⊢
  have hl : lv_has ls 2 [(0, .ref (ad o)), (1, .int p1)] := hl
  clear B
  unfold FX0_begin at hF
  refine lv_aload_n hx hb dX0_begin_0 rfl (lv_at hl 0 rfl) ?_
  refine lv_bipush (v := (31 : Int32)) hx hb dX0_begin_1 (by decide) ?_
  refine lv_aload_n hx hb dX0_begin_3 rfl (lv_at hl 0 rfl) ?_
  refine z_get (ci := 0) (C := RX0) (T := TX0) (N := 1) hx hb hts iX0_begin_X0 hown hK hP (zk_lt ho (by decide)) (zx_0 ho) rfl 0 (by decide) kX0_begin_f9 rfl (v := .int (σ o 0)) rfl dX0_begin_4 ?_
  refine lv_imul hx hb dX0_begin_7 ?_
  refine lv_iload_n hx hb dX0_begin_8 rfl (lv_at hl 1 rfl) ?_
  refine lv_iadd hx hb dX0_begin_9 ?_
  obtain ⟨σ1, eσ1, hF⟩ := zlet_inv hF
  refine z_put (ci := 0) (C := RX0) (T := TX0) (N := 1) hx hb hts iX0_begin_X0 tyX0 tyX0_ok nmX0 hown hK hP hD hS (zk_lt ho (by decide)) (zx_0 ho) rfl 0 (by decide) kX0_begin_f9 rfl rfl rfl rfl (Nat.le_of_ble_eq_true rfl) (zx_0 ho) dX0_begin_10 (fun H locs hP hD hS => ?_)
  have hP : va_P D vwCl (zW (zx cI cS cP ad) 41 ad σ1) H := by rw [eσ1]; exact hP
  have hD : va_D A (zW (zx cI cS cP ad) 41 ad σ1) := by rw [eσ1]; exact hD
  exact z_vret hx hb hr hlocks hN hK hP hD hS hF dX0_begin_13
theorem kX0_gooseherdTelling_f34 : Cond.fieldLink RX0 34 "LeastAsked$Person" "wit" "I" ∈ wsX0_gooseherdTelling := by decide +kernel
theorem iX0_gooseherdTelling_X2 : ∀ w ∈ u_ws RX2 TX2 4, w ∈ wsX0_gooseherdTelling := fun _ h => List.mem_cons_of_mem _ (List.mem_append_left _ (List.mem_append_right _ h))
set_option maxHeartbeats 4000000 in
set_option maxRecDepth 100000 in
theorem CX0_gooseherdTelling (l : Launch) (D : va_G) (cI cS cP : ClassId) (ad : Nat → Nat) (A : Nat → Prop) (n : Nat) (σ σ' : zMem) (r0 : Int32) (o : Nat) (q1 : Nat) (ho : zk o = 0) (hq1 : zk q1 = 2) (hF : FX0_gooseherdTelling n o q1 σ = some (r0, σ')) : Met l yX0_gooseherdTelling wsX0_gooseherdTelling ({ frames := 1, cells := 0, slots := 0, locals := 21 } : Room) (va_Pc [.ref (ad o), .ref (ad q1)] (zB (zx cI cS cP ad) 41 ad D (zty cI cS cP) A σ)) (va_Qi (fun r u => r = r0 ∧ u = σ') (zB (zx cI cS cP ad) 41 ad D (zty cI cS cP) A) A) 0 0 A := by
  refine Met.ofW (cc := cX0_gooseherdTelling) (maxL := 2) (ret := (some .int)) (by decide) rfl ?_
  intro p e s m args below meth c s₁ B hml hv
  obtain ⟨rfl, hP, hK, hD, hN⟩ := hv
  have hx := B.exec
  have hb := B.bytes
  have hr := B.returns
  have hts := atoms_spec (ws := wsX0_gooseherdTelling) B.pre
  have hown : s.vm.findClass RX0 = some m.cls := findClass_of_methodNamed B.named
  have hlocks := B.notSynchronized
  have hS : va_S A s.heap s.heap [] := va_S.rf
  have hl := lv_entry ([.ref (ad o), .ref (ad q1)]) (n := 2) (Nat.le_of_ble_eq_true rfl)
  rw [lg_entry_eq]
  generalize (lg_sl ([.ref (ad o), .ref (ad q1)]) ++ List.replicate (2 - (lg_sl ([.ref (ad o), .ref (ad q1)])).length) Slot.unset).toArray = ls at hl ⊢
  have hl : lv_has ls 2 [(0, .ref (ad o)), (1, .ref (ad q1))] := hl
  clear B
  unfold FX0_gooseherdTelling at hF
  refine lv_aload_n hx hb dX0_gooseherdTelling_0 rfl (lv_at hl 0 rfl) ?_
  refine lv_iconst (v := (1 : Int32)) hx hb dX0_gooseherdTelling_1 (by decide) ?_
  obtain ⟨r2, σ1, hC3, hF⟩ := zbd_inv hF
  refine z_callv (va_runV (As := [.int (1 : Int32)]) (rest := []) ⟨hx, hb, hml, hown, hts⟩ (CX0_begin l D cI cS cP ad A n σ σ1 r2 o (1 : Int32) ho hC3) (cwV 1 hts gX0_gooseherdTelling_X0_begin rfl rfl rfl (by decide +kernel) ⟨Nat.le_of_ble_eq_true rfl, Nat.le_of_ble_eq_true rfl⟩) (z_preV hN hK hP hD (zk_lt ho (by decide)) (zx_0 ho) rfl) rfl rfl hl.1 rfl (lv_room (Nat.le_of_ble_eq_true rfl)) dX0_gooseherdTelling_2 ⟨Nat.zero_le _, Nat.zero_le _⟩) hS (fun H locs hP hD hS => ?_)
  refine lv_aload_n hx hb dX0_gooseherdTelling_5 rfl (lv_at hl 1 rfl) ?_
  refine z_get (ci := 2) (C := RX2) (T := TX2) (N := 4) hx hb hts iX0_gooseherdTelling_X2 hown hK hP (zk_lt hq1 (by decide)) (zx_2 hq1) rfl 3 (by decide) kX0_gooseherdTelling_f34 rfl (v := .int (σ1 q1 3)) rfl dX0_gooseherdTelling_6 ?_
  exact z_iret hx hb hr hlocks hN hK hP hD hS hF dX0_gooseherdTelling_9
set_option maxHeartbeats 4000000 in
set_option maxRecDepth 100000 in
theorem CX0_twinTelling (l : Launch) (D : va_G) (cI cS cP : ClassId) (ad : Nat → Nat) (A : Nat → Prop) (n : Nat) (σ σ' : zMem) (r0 : Int32) (o : Nat) (q1 : Nat) (ho : zk o = 0) (hq1 : zk q1 = 2) (hF : FX0_twinTelling n o q1 σ = some (r0, σ')) : Met l yX0_twinTelling wsX0_twinTelling ({ frames := 2, cells := 0, slots := 0, locals := 42 } : Room) (va_Pc [.ref (ad o), .ref (ad q1)] (zB (zx cI cS cP ad) 41 ad D (zty cI cS cP) A σ)) (va_Qi (fun r u => r = r0 ∧ u = σ') (zB (zx cI cS cP ad) 41 ad D (zty cI cS cP) A) A) 0 0 A := by
  refine Met.ofW (cc := cX0_twinTelling) (maxL := 2) (ret := (some .int)) (by decide) rfl ?_
  intro p e s m args below meth c s₁ B hml hv
  obtain ⟨rfl, hP, hK, hD, hN⟩ := hv
  have hx := B.exec
  have hb := B.bytes
  have hr := B.returns
  have hts := atoms_spec (ws := wsX0_twinTelling) B.pre
  have hown : s.vm.findClass RX0 = some m.cls := findClass_of_methodNamed B.named
  have hlocks := B.notSynchronized
  have hS : va_S A s.heap s.heap [] := va_S.rf
  have hl := lv_entry ([.ref (ad o), .ref (ad q1)]) (n := 2) (Nat.le_of_ble_eq_true rfl)
  rw [lg_entry_eq]
  generalize (lg_sl ([.ref (ad o), .ref (ad q1)]) ++ List.replicate (2 - (lg_sl ([.ref (ad o), .ref (ad q1)])).length) Slot.unset).toArray = ls at hl ⊢
  have hl : lv_has ls 2 [(0, .ref (ad o)), (1, .ref (ad q1))] := hl
  clear B
  unfold FX0_twinTelling at hF
  refine lv_aload_n hx hb dX0_twinTelling_0 rfl (lv_at hl 0 rfl) ?_
  refine lv_iconst (v := (2 : Int32)) hx hb dX0_twinTelling_1 (by decide) ?_
  obtain ⟨r2, σ1, hC3, hF⟩ := zbd_inv hF
  refine z_callv (va_runV (As := [.int (2 : Int32)]) (rest := []) ⟨hx, hb, hml, hown, hts⟩ (CX0_begin l D cI cS cP ad A n σ σ1 r2 o (2 : Int32) ho hC3) (cwV 1 hts gX0_twinTelling_X0_begin rfl rfl rfl (by decide +kernel) ⟨Nat.le_of_ble_eq_true rfl, Nat.le_of_ble_eq_true rfl⟩) (z_preV hN hK hP hD (zk_lt ho (by decide)) (zx_0 ho) rfl) rfl rfl hl.1 rfl (lv_room (Nat.le_of_ble_eq_true rfl)) dX0_twinTelling_2 ⟨Nat.zero_le _, Nat.zero_le _⟩) hS (fun H locs hP hD hS => ?_)
  refine lv_aload_n hx hb dX0_twinTelling_5 rfl (lv_at hl 0 rfl) ?_
  refine lv_aload_n hx hb dX0_twinTelling_6 rfl (lv_at hl 1 rfl) ?_
  obtain ⟨r5, σ4, hC6, hF⟩ := zbd_inv hF
  refine z_calli (va_runV (As := [.ref (ad q1)]) (rest := []) ⟨hx, hb, hml, hown, hts⟩ (CX0_gooseherdTelling l D cI cS cP ad A n σ1 σ4 r5 o q1 ho hq1 hC6) (cwV 1 hts gX0_twinTelling_X0_gooseherdTelling rfl rfl rfl (by decide +kernel) ⟨Nat.le_of_ble_eq_true rfl, Nat.le_of_ble_eq_true rfl⟩) (z_preV hN hK hP hD (zk_lt ho (by decide)) (zx_0 ho) rfl) rfl rfl hl.1 rfl (lv_room (Nat.le_of_ble_eq_true rfl)) dX0_twinTelling_7 ⟨Nat.zero_le _, Nat.zero_le _⟩) hS (fun H locs hP hD hS => ?_)
  refine lv_bipush (v := (100 : Int32)) hx hb dX0_twinTelling_10 (by decide) ?_
  refine lv_iadd hx hb dX0_twinTelling_12 ?_
  exact z_iret hx hb hr hlocks hN hK hP hD hS hF dX0_twinTelling_13
set_option maxHeartbeats 4000000 in
set_option maxRecDepth 100000 in
theorem CX0_hermitTelling (l : Launch) (D : va_G) (cI cS cP : ClassId) (ad : Nat → Nat) (A : Nat → Prop) (n : Nat) (σ σ' : zMem) (r0 : Int32) (o : Nat) (q1 : Nat) (ho : zk o = 0) (hq1 : zk q1 = 2) (hF : FX0_hermitTelling n o q1 σ = some (r0, σ')) : Met l yX0_hermitTelling wsX0_hermitTelling ({ frames := 3, cells := 0, slots := 0, locals := 63 } : Room) (va_Pc [.ref (ad o), .ref (ad q1)] (zB (zx cI cS cP ad) 41 ad D (zty cI cS cP) A σ)) (va_Qi (fun r u => r = r0 ∧ u = σ') (zB (zx cI cS cP ad) 41 ad D (zty cI cS cP) A) A) 0 0 A := by
  refine Met.ofW (cc := cX0_hermitTelling) (maxL := 3) (ret := (some .int)) (by decide) rfl ?_
  intro p e s m args below meth c s₁ B hml hv
  obtain ⟨rfl, hP, hK, hD, hN⟩ := hv
  have hx := B.exec
  have hb := B.bytes
  have hr := B.returns
  have hts := atoms_spec (ws := wsX0_hermitTelling) B.pre
  have hown : s.vm.findClass RX0 = some m.cls := findClass_of_methodNamed B.named
  have hlocks := B.notSynchronized
  have hS : va_S A s.heap s.heap [] := va_S.rf
  have hl := lv_entry ([.ref (ad o), .ref (ad q1)]) (n := 3) (Nat.le_of_ble_eq_true rfl)
  rw [lg_entry_eq]
  generalize (lg_sl ([.ref (ad o), .ref (ad q1)]) ++ List.replicate (3 - (lg_sl ([.ref (ad o), .ref (ad q1)])).length) Slot.unset).toArray = ls at hl ⊢
  have hl : lv_has ls 3 [(0, .ref (ad o)), (1, .ref (ad q1))] := hl
  clear B
  unfold FX0_hermitTelling at hF
  refine lv_aload_n hx hb dX0_hermitTelling_0 rfl (lv_at hl 0 rfl) ?_
  refine lv_iconst (v := (3 : Int32)) hx hb dX0_hermitTelling_1 (by decide) ?_
  obtain ⟨r2, σ1, hC3, hF⟩ := zbd_inv hF
  refine z_callv (va_runV (As := [.int (3 : Int32)]) (rest := []) ⟨hx, hb, hml, hown, hts⟩ (CX0_begin l D cI cS cP ad A n σ σ1 r2 o (3 : Int32) ho hC3) (cwV 1 hts gX0_hermitTelling_X0_begin rfl rfl rfl (by decide +kernel) ⟨Nat.le_of_ble_eq_true rfl, Nat.le_of_ble_eq_true rfl⟩) (z_preV hN hK hP hD (zk_lt ho (by decide)) (zx_0 ho) rfl) rfl rfl hl.1 rfl (lv_room (Nat.le_of_ble_eq_true rfl)) dX0_hermitTelling_2 ⟨Nat.zero_le _, Nat.zero_le _⟩) hS (fun H locs hP hD hS => ?_)
  refine lv_aload_n hx hb dX0_hermitTelling_5 rfl (lv_at hl 0 rfl) ?_
  refine lv_aload_n hx hb dX0_hermitTelling_6 rfl (lv_at hl 1 rfl) ?_
  obtain ⟨r5, σ4, hC6, hF⟩ := zbd_inv hF
  refine z_calli (va_runV (As := [.ref (ad q1)]) (rest := []) ⟨hx, hb, hml, hown, hts⟩ (CX0_twinTelling l D cI cS cP ad A n σ1 σ4 r5 o q1 ho hq1 hC6) (cwV 1 hts gX0_hermitTelling_X0_twinTelling rfl rfl rfl (by decide +kernel) ⟨Nat.le_of_ble_eq_true rfl, Nat.le_of_ble_eq_true rfl⟩) (z_preV hN hK hP hD (zk_lt ho (by decide)) (zx_0 ho) rfl) rfl rfl hl.1 rfl (lv_room (Nat.le_of_ble_eq_true rfl)) dX0_hermitTelling_7 ⟨Nat.zero_le _, Nat.zero_le _⟩) hS (fun H locs hP hD hS => ?_)
  refine lv_istore_n (lv' := [(2, .int r5), (0, .ref (ad o)), (1, .ref (ad q1))]) hx hb dX0_hermitTelling_10 rfl hl (by decide) rfl (fun ls hl => ?_)
  refine lv_iload_n hx hb dX0_hermitTelling_11 rfl (lv_at hl 0 rfl) ?_
  refine lv_aload_n hx hb dX0_hermitTelling_12 rfl (lv_at hl 1 rfl) ?_
  refine lv_aload_n hx hb dX0_hermitTelling_13 rfl (lv_at hl 2 rfl) ?_
  obtain ⟨r8, σ7, hC9, hF⟩ := zbd_inv hF
  refine z_calli (va_runV (As := [.ref (ad q1)]) (rest := [.int r5]) ⟨hx, hb, hml, hown, hts⟩ (CX0_gooseherdTelling l D cI cS cP ad A n σ4 σ7 r8 o q1 ho hq1 hC9) (cwV 1 hts gX0_hermitTelling_X0_gooseherdTelling rfl rfl rfl (by decide +kernel) ⟨Nat.le_of_ble_eq_true rfl, Nat.le_of_ble_eq_true rfl⟩) (z_preV hN hK hP hD (zk_lt ho (by decide)) (zx_0 ho) rfl) rfl rfl hl.1 rfl (lv_room (Nat.le_of_ble_eq_true rfl)) dX0_hermitTelling_14 ⟨Nat.zero_le _, Nat.zero_le _⟩) hS (fun H locs hP hD hS => ?_)
  refine lv_iadd hx hb dX0_hermitTelling_17 ?_
  exact z_iret hx hb hr hlocks hN hK hP hD hS hF dX0_hermitTelling_18
theorem kX0_telling_f15 : Cond.fieldLink RX0 15 "LeastAsked$Person" "kind" "I" ∈ wsX0_telling := by decide +kernel
theorem iX0_telling_X2 : ∀ w ∈ u_ws RX2 TX2 4, w ∈ wsX0_telling := fun _ h => List.mem_cons_of_mem _ (List.mem_append_left _ (List.mem_append_right _ h))
set_option maxHeartbeats 4000000 in
set_option maxRecDepth 100000 in
theorem CX0_telling (l : Launch) (D : va_G) (cI cS cP : ClassId) (ad : Nat → Nat) (A : Nat → Prop) (n : Nat) (σ σ' : zMem) (r0 : Int32) (o : Nat) (q1 : Nat) (ho : zk o = 0) (hq1 : zk q1 = 2) (hF : FX0_telling n o q1 σ = some (r0, σ')) : Met l yX0_telling wsX0_telling ({ frames := 4, cells := 0, slots := 0, locals := 85 } : Room) (va_Pc [.ref (ad o), .ref (ad q1)] (zB (zx cI cS cP ad) 41 ad D (zty cI cS cP) A σ)) (va_Qi (fun r u => r = r0 ∧ u = σ') (zB (zx cI cS cP ad) 41 ad D (zty cI cS cP) A) A) 0 0 A := by
  refine Met.ofW (cc := cX0_telling) (maxL := 2) (ret := (some .int)) (by decide) rfl ?_
  intro p e s m args below meth c s₁ B hml hv
  obtain ⟨rfl, hP, hK, hD, hN⟩ := hv
  have hx := B.exec
  have hb := B.bytes
  have hr := B.returns
  have hts := atoms_spec (ws := wsX0_telling) B.pre
  have hown : s.vm.findClass RX0 = some m.cls := findClass_of_methodNamed B.named
  have hlocks := B.notSynchronized
  have hS : va_S A s.heap s.heap [] := va_S.rf
  have hl := lv_entry ([.ref (ad o), .ref (ad q1)]) (n := 2) (Nat.le_of_ble_eq_true rfl)
  rw [lg_entry_eq]
  generalize (lg_sl ([.ref (ad o), .ref (ad q1)]) ++ List.replicate (2 - (lg_sl ([.ref (ad o), .ref (ad q1)])).length) Slot.unset).toArray = ls at hl ⊢
  have hl : lv_has ls 2 [(0, .ref (ad o)), (1, .ref (ad q1))] := hl
  clear B
  unfold FX0_telling at hF
  refine lv_aload_n hx hb dX0_telling_0 rfl (lv_at hl 1 rfl) ?_
  refine z_get (ci := 2) (C := RX2) (T := TX2) (N := 4) hx hb hts iX0_telling_X2 hown hK hP (zk_lt hq1 (by decide)) (zx_2 hq1) rfl 0 (by decide) kX0_telling_f15 rfl (v := .int (σ q1 0)) rfl dX0_telling_1 ?_
  by_cases b1 : (σ q1 0) = (1 : Int32)
  · have hF := zif_t b1 hF
    refine lv_lookup (off := 28) (tgt := 32) hx hb dX0_telling_4 (by decide) (by rw [b1]; try rfl) (by decide) ?_
    refine lv_aload_n hx hb dX0_telling_32 rfl (lv_at hl 0 rfl) ?_
    refine lv_aload_n hx hb dX0_telling_33 rfl (lv_at hl 1 rfl) ?_
    obtain ⟨r3, σ2, hC4, hF⟩ := zbd_inv hF
    refine z_calli (va_runV (As := [.ref (ad q1)]) (rest := []) ⟨hx, hb, hml, hown, hts⟩ (CX0_twinTelling l D cI cS cP ad A n σ σ2 r3 o q1 ho hq1 hC4) (cwV 1 hts gX0_telling_X0_twinTelling rfl rfl rfl (by decide +kernel) ⟨Nat.le_of_ble_eq_true rfl, Nat.le_of_ble_eq_true rfl⟩) (z_preV hN hK hP hD (zk_lt ho (by decide)) (zx_0 ho) rfl) rfl rfl hl.1 rfl (lv_room (Nat.le_of_ble_eq_true rfl)) dX0_telling_34 ⟨Nat.zero_le _, Nat.zero_le _⟩) hS (fun H locs hP hD hS => ?_)
    exact z_iret hx hb hr hlocks hN hK hP hD hS hF dX0_telling_37
  · have hF := zif_f b1 hF
    by_cases b5 : (σ q1 0) = (2 : Int32)
    · have hF := zif_t b5 hF
      refine lv_lookup (off := 34) (tgt := 38) hx hb dX0_telling_4 (by decide) (by rw [b5]; try rfl) (by decide) ?_
      refine lv_aload_n hx hb dX0_telling_38 rfl (lv_at hl 0 rfl) ?_
      refine lv_aload_n hx hb dX0_telling_39 rfl (lv_at hl 1 rfl) ?_
      obtain ⟨r7, σ6, hC8, hF⟩ := zbd_inv hF
      refine z_calli (va_runV (As := [.ref (ad q1)]) (rest := []) ⟨hx, hb, hml, hown, hts⟩ (CX0_hermitTelling l D cI cS cP ad A n σ σ6 r7 o q1 ho hq1 hC8) (cwV 1 hts gX0_telling_X0_hermitTelling rfl rfl rfl (by decide +kernel) ⟨Nat.le_of_ble_eq_true rfl, Nat.le_of_ble_eq_true rfl⟩) (z_preV hN hK hP hD (zk_lt ho (by decide)) (zx_0 ho) rfl) rfl rfl hl.1 rfl (lv_room (Nat.le_of_ble_eq_true rfl)) dX0_telling_40 ⟨Nat.zero_le _, Nat.zero_le _⟩) hS (fun H locs hP hD hS => ?_)
      exact z_iret hx hb hr hlocks hN hK hP hD hS hF dX0_telling_43
    · have hF := zif_f b5 hF
      refine lv_lookup (off := 40) (tgt := 44) hx hb dX0_telling_4 (by decide) (by show Op.lookupswitch.offset [(1, 28), (2, 34)] (40) _ = _; rw [lv_osw b1 (by decide), lv_osw b5 (by decide)]; try rfl) (by decide) ?_
      refine lv_aload_n hx hb dX0_telling_44 rfl (lv_at hl 0 rfl) ?_
      refine lv_aload_n hx hb dX0_telling_45 rfl (lv_at hl 1 rfl) ?_
      obtain ⟨r10, σ9, hC11, hF⟩ := zbd_inv hF
      refine z_calli (va_runV (As := [.ref (ad q1)]) (rest := []) ⟨hx, hb, hml, hown, hts⟩ (CX0_gooseherdTelling l D cI cS cP ad A n σ σ9 r10 o q1 ho hq1 hC11) (cwV 1 hts gX0_telling_X0_gooseherdTelling rfl rfl rfl (by decide +kernel) ⟨Nat.le_of_ble_eq_true rfl, Nat.le_of_ble_eq_true rfl⟩) (z_preV hN hK hP hD (zk_lt ho (by decide)) (zx_0 ho) rfl) rfl rfl hl.1 rfl (lv_room (Nat.le_of_ble_eq_true rfl)) dX0_telling_46 ⟨Nat.zero_le _, Nat.zero_le _⟩) hS (fun H locs hP hD hS => ?_)
      exact z_iret hx hb hr hlocks hN hK hP hD hS hF dX0_telling_49
theorem kX0_greeting_f15 : Cond.fieldLink RX0 15 "LeastAsked$Person" "kind" "I" ∈ wsX0_greeting := by decide +kernel
theorem kX0_greeting_f37 : Cond.fieldLink RX0 37 "LeastAsked$Person" "asked" "I" ∈ wsX0_greeting := by decide +kernel
theorem iX0_greeting_X2 : ∀ w ∈ u_ws RX2 TX2 4, w ∈ wsX0_greeting := fun _ h => List.mem_cons_of_mem _ (List.mem_append_left _ (List.mem_append_right _ h))
set_option maxHeartbeats 4000000 in
set_option maxRecDepth 100000 in
theorem CX0_greeting (l : Launch) (D : va_G) (cI cS cP : ClassId) (ad : Nat → Nat) (A : Nat → Prop) (n : Nat) (σ σ' : zMem) (r0 : Int32) (o : Nat) (q1 : Nat) (ho : zk o = 0) (hq1 : zk q1 = 2) (hF : FX0_greeting n o q1 σ = some (r0, σ')) : Met l yX0_greeting wsX0_greeting ({ frames := 1, cells := 0, slots := 0, locals := 21 } : Room) (va_Pc [.ref (ad o), .ref (ad q1)] (zB (zx cI cS cP ad) 41 ad D (zty cI cS cP) A σ)) (va_Qi (fun r u => r = r0 ∧ u = σ') (zB (zx cI cS cP ad) 41 ad D (zty cI cS cP) A) A) 0 0 A := by
  refine Met.ofW (cc := cX0_greeting) (maxL := 2) (ret := (some .int)) (by decide) rfl ?_
  intro p e s m args below meth c s₁ B hml hv
  obtain ⟨rfl, hP, hK, hD, hN⟩ := hv
  have hx := B.exec
  have hb := B.bytes
  have hr := B.returns
  have hts := atoms_spec (ws := wsX0_greeting) B.pre
  have hown : s.vm.findClass RX0 = some m.cls := findClass_of_methodNamed B.named
  have hlocks := B.notSynchronized
  have hS : va_S A s.heap s.heap [] := va_S.rf
  have hl := lv_entry ([.ref (ad o), .ref (ad q1)]) (n := 2) (Nat.le_of_ble_eq_true rfl)
  rw [lg_entry_eq]
  generalize (lg_sl ([.ref (ad o), .ref (ad q1)]) ++ List.replicate (2 - (lg_sl ([.ref (ad o), .ref (ad q1)])).length) Slot.unset).toArray = ls at hl ⊢
  have hl : lv_has ls 2 [(0, .ref (ad o)), (1, .ref (ad q1))] := hl
  clear B
  unfold FX0_greeting at hF
  refine lv_aload_n hx hb dX0_greeting_0 rfl (lv_at hl 1 rfl) ?_
  refine z_get (ci := 2) (C := RX2) (T := TX2) (N := 4) hx hb hts iX0_greeting_X2 hown hK hP (zk_lt hq1 (by decide)) (zx_2 hq1) rfl 0 (by decide) kX0_greeting_f15 rfl (v := .int (σ q1 0)) rfl dX0_greeting_1 ?_
  refine lv_iconst (v := (2 : Int32)) hx hb dX0_greeting_4 (by decide) ?_
  refine lv_icmp_ne (tgt := 16) hx hb dX0_greeting_5 (by decide) (fun b1 => ?_) (fun b1 => ?_)
  · have hF := zif_f b1 hF
    refine lv_aload_n hx hb dX0_greeting_16 rfl (lv_at hl 0 rfl) ?_
    refine lv_iconst (v := (4 : Int32)) hx hb dX0_greeting_17 (by decide) ?_
    obtain ⟨r3, σ2, hC4, hF⟩ := zbd_inv hF
    refine z_callv (va_runV (As := [.int (4 : Int32)]) (rest := []) ⟨hx, hb, hml, hown, hts⟩ (CX0_begin l D cI cS cP ad A n σ σ2 r3 o (4 : Int32) ho hC4) (cwV 1 hts gX0_greeting_X0_begin rfl rfl rfl (by decide +kernel) ⟨Nat.le_of_ble_eq_true rfl, Nat.le_of_ble_eq_true rfl⟩) (z_preV hN hK hP hD (zk_lt ho (by decide)) (zx_0 ho) rfl) rfl rfl hl.1 rfl (lv_room (Nat.le_of_ble_eq_true rfl)) dX0_greeting_18 ⟨Nat.zero_le _, Nat.zero_le _⟩) hS (fun H locs hP hD hS => ?_)
    refine lv_aload_n hx hb dX0_greeting_21 rfl (lv_at hl 1 rfl) ?_
    refine z_get (ci := 2) (C := RX2) (T := TX2) (N := 4) hx hb hts iX0_greeting_X2 hown hK hP (zk_lt hq1 (by decide)) (zx_2 hq1) rfl 1 (by decide) kX0_greeting_f37 rfl (v := .int (σ2 q1 1)) rfl dX0_greeting_22 ?_
    exact z_iret hx hb hr hlocks hN hK hP hD hS hF dX0_greeting_25
  · have hF := zif_t b1 hF
    refine lv_aload_n hx hb dX0_greeting_8 rfl (lv_at hl 0 rfl) ?_
    refine lv_iconst (v := (5 : Int32)) hx hb dX0_greeting_9 (by decide) ?_
    obtain ⟨r6, σ5, hC7, hF⟩ := zbd_inv hF
    refine z_callv (va_runV (As := [.int (5 : Int32)]) (rest := []) ⟨hx, hb, hml, hown, hts⟩ (CX0_begin l D cI cS cP ad A n σ σ5 r6 o (5 : Int32) ho hC7) (cwV 1 hts gX0_greeting_X0_begin rfl rfl rfl (by decide +kernel) ⟨Nat.le_of_ble_eq_true rfl, Nat.le_of_ble_eq_true rfl⟩) (z_preV hN hK hP hD (zk_lt ho (by decide)) (zx_0 ho) rfl) rfl rfl hl.1 rfl (lv_room (Nat.le_of_ble_eq_true rfl)) dX0_greeting_10 ⟨Nat.zero_le _, Nat.zero_le _⟩) hS (fun H locs hP hD hS => ?_)
    refine lv_bipush (v := (40 : Int32)) hx hb dX0_greeting_13 (by decide) ?_
    exact z_iret hx hb hr hlocks hN hK hP hD hS hF dX0_greeting_15
set_option maxHeartbeats 4000000 in
set_option maxRecDepth 100000 in
theorem CX9_isBelow (l : Launch) (D : va_G) (cI cS cP : ClassId) (ad : Nat → Nat) (A : Nat → Prop) (n : Nat) (σ σ' : zMem) (r0 : Int32) (p1 : Int32) (p2 : Int32) (hF : FX9_isBelow n σ p1 p2 = some (r0, σ')) : Met l yX9_isBelow wsX9_isBelow ({ frames := 0, cells := 0, slots := 0, locals := 0 } : Room) (va_Pc [.int p1, .int p2] (zB (zx cI cS cP ad) 41 ad D (zty cI cS cP) A σ)) (va_Qi (fun r u => r = r0 ∧ u = σ') (zB (zx cI cS cP ad) 41 ad D (zty cI cS cP) A) A) 0 0 A := by
  refine Met.ofW (cc := cX9_isBelow) (maxL := 2) (ret := (some .boolean)) (by decide) rfl ?_
  intro p e s m args below meth c s₁ B hml hv
  obtain ⟨rfl, hP, hK, hD, hN⟩ := hv
  have hx := B.exec
  have hb := B.bytes
  have hr := B.returns
  have hts := atoms_spec (ws := wsX9_isBelow) B.pre
  have hown : s.vm.findClass RX9 = some m.cls := findClass_of_methodNamed B.named
  have hlocks := B.notSynchronized
  have hS : va_S A s.heap s.heap [] := va_S.rf
  have hl := lv_entry ([.int p1, .int p2]) (n := 2) (Nat.le_of_ble_eq_true rfl)
  rw [lg_entry_eq]
  generalize (lg_sl ([.int p1, .int p2]) ++ List.replicate (2 - (lg_sl ([.int p1, .int p2])).length) Slot.unset).toArray = ls at hl ⊢
  have hl : lv_has ls 2 [(0, .int p1), (1, .int p2)] := hl
  clear B
  unfold FX9_isBelow at hF
  refine lv_iload_n hx hb dX9_isBelow_0 rfl (lv_at hl 0 rfl) ?_
  refine lv_if_lt (tgt := 13) hx hb dX9_isBelow_1 (by decide) (fun b1 => ?_) (fun b1 => ?_)
  · have hF := zif_t b1 hF
    refine lv_iconst (v := (0 : Int32)) hx hb dX9_isBelow_13 (by decide) ?_
    exact z_zret hx hb hr hlocks (Or.inl rfl) hN hK hP hD hS hF dX9_isBelow_14
  · have hF := zif_f b1 hF
    refine lv_iload_n hx hb dX9_isBelow_4 rfl (lv_at hl 0 rfl) ?_
    refine lv_iload_n hx hb dX9_isBelow_5 rfl (lv_at hl 1 rfl) ?_
    refine lv_icmp_ge (tgt := 13) hx hb dX9_isBelow_6 (by decide) (fun b2 => ?_) (fun b2 => ?_)
    · have hF := zif_t b2 hF
      refine lv_iconst (v := (0 : Int32)) hx hb dX9_isBelow_13 (by decide) ?_
      exact z_zret hx hb hr hlocks (Or.inl rfl) hN hK hP hD hS hF dX9_isBelow_14
    · have hF := zif_f b2 hF
      refine lv_iconst (v := (1 : Int32)) hx hb dX9_isBelow_9 (by decide) ?_
      refine lv_goto (tgt := 14) hx hb dX9_isBelow_10 (by decide) ?_
      exact z_zret hx hb hr hlocks (Or.inr rfl) hN hK hP hD hS hF dX9_isBelow_14
theorem kX4_hasPerson_f21 : Cond.fieldLink RX4 21 "LeastAsked$Province" "count" "I" ∈ wsX4_hasPerson := by decide +kernel
theorem kX4_hasPerson_iX9 : Cond.initialized RX9 ∈ wsX4_hasPerson := by decide +kernel
theorem kX4_hasPerson_stX9_isBelow : Cond.static yX9_isBelow ∈ wsX4_hasPerson := by decide +kernel
theorem iX4_hasPerson_X4 : ∀ w ∈ u_ws RX4 TX4 3, w ∈ wsX4_hasPerson := fun _ h => List.mem_cons_of_mem _ (List.mem_append_right _ h)
set_option maxHeartbeats 4000000 in
set_option maxRecDepth 100000 in
theorem CX4_hasPerson (l : Launch) (D : va_G) (cI cS cP : ClassId) (ad : Nat → Nat) (A : Nat → Prop) (n : Nat) (σ σ' : zMem) (r0 : Int32) (o : Nat) (p1 : Int32) (ho : zk o = 4) (hF : FX4_hasPerson n o σ p1 = some (r0, σ')) : Met l yX4_hasPerson wsX4_hasPerson ({ frames := 1, cells := 0, slots := 0, locals := 21 } : Room) (va_Pc [.ref (ad o), .int p1] (zB (zx cI cS cP ad) 41 ad D (zty cI cS cP) A σ)) (va_Qi (fun r u => r = r0 ∧ u = σ') (zB (zx cI cS cP ad) 41 ad D (zty cI cS cP) A) A) 0 0 A := by
  refine Met.ofW (cc := cX4_hasPerson) (maxL := 2) (ret := (some .boolean)) (by decide) rfl ?_
  intro p e s m args below meth c s₁ B hml hv
  obtain ⟨rfl, hP, hK, hD, hN⟩ := hv
  have hx := B.exec
  have hb := B.bytes
  have hr := B.returns
  have hts := atoms_spec (ws := wsX4_hasPerson) B.pre
  have hown : s.vm.findClass RX4 = some m.cls := findClass_of_methodNamed B.named
  have hlocks := B.notSynchronized
  have hS : va_S A s.heap s.heap [] := va_S.rf
  have hl := lv_entry ([.ref (ad o), .int p1]) (n := 2) (Nat.le_of_ble_eq_true rfl)
  rw [lg_entry_eq]
  generalize (lg_sl ([.ref (ad o), .int p1]) ++ List.replicate (2 - (lg_sl ([.ref (ad o), .int p1])).length) Slot.unset).toArray = ls at hl ⊢
  have hl : lv_has ls 2 [(0, .ref (ad o)), (1, .int p1)] := hl
  clear B
  unfold FX4_hasPerson at hF
  refine lv_iload_n hx hb dX4_hasPerson_0 rfl (lv_at hl 1 rfl) ?_
  refine lv_aload_n hx hb dX4_hasPerson_1 rfl (lv_at hl 0 rfl) ?_
  refine z_get (ci := 4) (C := RX4) (T := TX4) (N := 3) hx hb hts iX4_hasPerson_X4 hown hK hP (zk_lt ho (by decide)) (zx_4 ho) rfl 2 (by decide) kX4_hasPerson_f21 rfl (v := .int (σ o 2)) rfl dX4_hasPerson_2 ?_
  obtain ⟨r2, σ1, hC3, hF⟩ := zbd_inv hF
  refine z_calli (va_runSN (As := [.int p1, .int (σ o 2)]) (rest := []) ⟨hx, hb, hml, hown, hts⟩ (CX9_isBelow l D cI cS cP ad A n σ σ1 r2 p1 (σ o 2) hC3) ⟨va_cnB 2 hts gX4_hasPerson_X9_isBelow_n45 rfl rfl rfl hN.1 (hts _ kX4_hasPerson_iX9) (by decide +kernel) ⟨Nat.le_of_ble_eq_true rfl, Nat.le_of_ble_eq_true rfl⟩, hts _ kX4_hasPerson_stX9_isBelow, trivial⟩ (z_preS hN hK hP hD) rfl rfl hl.1 rfl (lv_room (Nat.le_of_ble_eq_true rfl)) dX4_hasPerson_5 ⟨Nat.zero_le _, Nat.zero_le _⟩) hS (fun H locs hP hD hS => ?_)
  obtain ⟨g4, hF⟩ := zgd_inv hF
  exact z_zret hx hb hr hlocks g4 hN hK hP hD hS hF dX4_hasPerson_8
theorem kX2_saying_f9 : Cond.fieldLink RX2 9 "LeastAsked$Person" "kind" "I" ∈ wsX2_saying := by decide +kernel
theorem kX2_saying_f21 : Cond.fieldLink RX2 21 "LeastAsked$Person" "wit" "I" ∈ wsX2_saying := by decide +kernel
theorem iX2_saying_X2 : ∀ w ∈ u_ws RX2 TX2 4, w ∈ wsX2_saying := fun _ h => List.mem_cons_of_mem _ (List.mem_append_right _ h)
set_option maxHeartbeats 4000000 in
set_option maxRecDepth 100000 in
theorem CX2_saying (l : Launch) (D : va_G) (cI cS cP : ClassId) (ad : Nat → Nat) (A : Nat → Prop) (n : Nat) (σ σ' : zMem) (r0 : Int32) (o : Nat) (ho : zk o = 2) (hF : FX2_saying n o σ = some (r0, σ')) : Met l yX2_saying wsX2_saying ({ frames := 0, cells := 0, slots := 0, locals := 0 } : Room) (va_Pc [.ref (ad o)] (zB (zx cI cS cP ad) 41 ad D (zty cI cS cP) A σ)) (va_Qi (fun r u => r = r0 ∧ u = σ') (zB (zx cI cS cP ad) 41 ad D (zty cI cS cP) A) A) 0 0 A := by
  refine Met.ofW (cc := cX2_saying) (maxL := 1) (ret := (some .int)) (by decide) rfl ?_
  intro p e s m args below meth c s₁ B hml hv
  obtain ⟨rfl, hP, hK, hD, hN⟩ := hv
  have hx := B.exec
  have hb := B.bytes
  have hr := B.returns
  have hts := atoms_spec (ws := wsX2_saying) B.pre
  have hown : s.vm.findClass RX2 = some m.cls := findClass_of_methodNamed B.named
  have hlocks := B.notSynchronized
  have hS : va_S A s.heap s.heap [] := va_S.rf
  have hl := lv_entry ([.ref (ad o)]) (n := 1) (Nat.le_of_ble_eq_true rfl)
  rw [lg_entry_eq]
  generalize (lg_sl ([.ref (ad o)]) ++ List.replicate (1 - (lg_sl ([.ref (ad o)])).length) Slot.unset).toArray = ls at hl ⊢
  have hl : lv_has ls 1 [(0, .ref (ad o))] := hl
  clear B
  unfold FX2_saying at hF
  refine lv_aload_n hx hb dX2_saying_0 rfl (lv_at hl 0 rfl) ?_
  refine z_get (ci := 2) (C := RX2) (T := TX2) (N := 4) hx hb hts iX2_saying_X2 hown hK hP (zk_lt ho (by decide)) (zx_2 ho) rfl 0 (by decide) kX2_saying_f9 rfl (v := .int (σ o 0)) rfl dX2_saying_1 ?_
  refine lv_iconst (v := (1 : Int32)) hx hb dX2_saying_4 (by decide) ?_
  refine lv_icmp_ne (tgt := 15) hx hb dX2_saying_5 (by decide) (fun b1 => ?_) (fun b1 => ?_)
  · have hF := zif_f b1 hF
    refine lv_aload_n hx hb dX2_saying_15 rfl (lv_at hl 0 rfl) ?_
    refine z_get (ci := 2) (C := RX2) (T := TX2) (N := 4) hx hb hts iX2_saying_X2 hown hK hP (zk_lt ho (by decide)) (zx_2 ho) rfl 0 (by decide) kX2_saying_f9 rfl (v := .int (σ o 0)) rfl dX2_saying_16 ?_
    refine lv_iconst (v := (2 : Int32)) hx hb dX2_saying_19 (by decide) ?_
    refine lv_icmp_ne (tgt := 32) hx hb dX2_saying_20 (by decide) (fun b2 => ?_) (fun b2 => ?_)
    · have hF := zif_f b2 hF
      refine lv_aload_n hx hb dX2_saying_32 rfl (lv_at hl 0 rfl) ?_
      refine z_get (ci := 2) (C := RX2) (T := TX2) (N := 4) hx hb hts iX2_saying_X2 hown hK hP (zk_lt ho (by decide)) (zx_2 ho) rfl 3 (by decide) kX2_saying_f21 rfl (v := .int (σ o 3)) rfl dX2_saying_33 ?_
      exact z_iret hx hb hr hlocks hN hK hP hD hS hF dX2_saying_36
    · have hF := zif_t b2 hF
      refine lv_iconst (v := (2 : Int32)) hx hb dX2_saying_23 (by decide) ?_
      refine lv_aload_n hx hb dX2_saying_24 rfl (lv_at hl 0 rfl) ?_
      refine z_get (ci := 2) (C := RX2) (T := TX2) (N := 4) hx hb hts iX2_saying_X2 hown hK hP (zk_lt ho (by decide)) (zx_2 ho) rfl 3 (by decide) kX2_saying_f21 rfl (v := .int (σ o 3)) rfl dX2_saying_25 ?_
      refine lv_imul hx hb dX2_saying_28 ?_
      refine lv_goto (tgt := 36) hx hb dX2_saying_29 (by decide) ?_
      exact z_iret hx hb hr hlocks hN hK hP hD hS hF dX2_saying_36
  · have hF := zif_t b1 hF
    refine lv_aload_n hx hb dX2_saying_8 rfl (lv_at hl 0 rfl) ?_
    refine z_get (ci := 2) (C := RX2) (T := TX2) (N := 4) hx hb hts iX2_saying_X2 hown hK hP (zk_lt ho (by decide)) (zx_2 ho) rfl 3 (by decide) kX2_saying_f21 rfl (v := .int (σ o 3)) rfl dX2_saying_9 ?_
    refine lv_iconst (v := (1 : Int32)) hx hb dX2_saying_12 (by decide) ?_
    refine lv_iadd hx hb dX2_saying_13 ?_
    exact z_iret hx hb hr hlocks hN hK hP hD hS hF dX2_saying_14
theorem kX2_isKnowing_f18 : Cond.fieldLink RX2 18 "LeastAsked$Person" "knows" "I" ∈ wsX2_isKnowing := by decide +kernel
theorem iX2_isKnowing_X2 : ∀ w ∈ u_ws RX2 TX2 4, w ∈ wsX2_isKnowing := fun _ h => List.mem_cons_of_mem _ (List.mem_append_right _ h)
set_option maxHeartbeats 4000000 in
set_option maxRecDepth 100000 in
theorem CX2_isKnowing (l : Launch) (D : va_G) (cI cS cP : ClassId) (ad : Nat → Nat) (A : Nat → Prop) (n : Nat) (σ σ' : zMem) (r0 : Int32) (o : Nat) (p1 : Int32) (ho : zk o = 2) (hF : FX2_isKnowing n o σ p1 = some (r0, σ')) : Met l yX2_isKnowing wsX2_isKnowing ({ frames := 0, cells := 0, slots := 0, locals := 0 } : Room) (va_Pc [.ref (ad o), .int p1] (zB (zx cI cS cP ad) 41 ad D (zty cI cS cP) A σ)) (va_Qi (fun r u => r = r0 ∧ u = σ') (zB (zx cI cS cP ad) 41 ad D (zty cI cS cP) A) A) 0 0 A := by
  refine Met.ofW (cc := cX2_isKnowing) (maxL := 2) (ret := (some .boolean)) (by decide) rfl ?_
  intro p e s m args below meth c s₁ B hml hv
  obtain ⟨rfl, hP, hK, hD, hN⟩ := hv
  have hx := B.exec
  have hb := B.bytes
  have hr := B.returns
  have hts := atoms_spec (ws := wsX2_isKnowing) B.pre
  have hown : s.vm.findClass RX2 = some m.cls := findClass_of_methodNamed B.named
  have hlocks := B.notSynchronized
  have hS : va_S A s.heap s.heap [] := va_S.rf
  have hl := lv_entry ([.ref (ad o), .int p1]) (n := 2) (Nat.le_of_ble_eq_true rfl)
  rw [lg_entry_eq]
  generalize (lg_sl ([.ref (ad o), .int p1]) ++ List.replicate (2 - (lg_sl ([.ref (ad o), .int p1])).length) Slot.unset).toArray = ls at hl ⊢
  have hl : lv_has ls 2 [(0, .ref (ad o)), (1, .int p1)] := hl
  clear B
  unfold FX2_isKnowing at hF
  refine lv_aload_n hx hb dX2_isKnowing_0 rfl (lv_at hl 0 rfl) ?_
  refine z_get (ci := 2) (C := RX2) (T := TX2) (N := 4) hx hb hts iX2_isKnowing_X2 hown hK hP (zk_lt ho (by decide)) (zx_2 ho) rfl 2 (by decide) kX2_isKnowing_f18 rfl (v := .int (σ o 2)) rfl dX2_isKnowing_1 ?_
  refine lv_iload_n hx hb dX2_isKnowing_4 rfl (lv_at hl 1 rfl) ?_
  refine lv_ishr hx hb dX2_isKnowing_5 ?_
  refine lv_iconst (v := (1 : Int32)) hx hb dX2_isKnowing_6 (by decide) ?_
  refine lv_iand hx hb dX2_isKnowing_7 ?_
  refine lv_iconst (v := (1 : Int32)) hx hb dX2_isKnowing_8 (by decide) ?_
  refine lv_icmp_ne (tgt := 16) hx hb dX2_isKnowing_9 (by decide) (fun b1 => ?_) (fun b1 => ?_)
  · have hF := zif_f b1 hF
    refine lv_iconst (v := (0 : Int32)) hx hb dX2_isKnowing_16 (by decide) ?_
    exact z_zret hx hb hr hlocks (Or.inl rfl) hN hK hP hD hS hF dX2_isKnowing_17
  · have hF := zif_t b1 hF
    refine lv_iconst (v := (1 : Int32)) hx hb dX2_isKnowing_12 (by decide) ?_
    refine lv_goto (tgt := 17) hx hb dX2_isKnowing_13 (by decide) ?_
    exact z_zret hx hb hr hlocks (Or.inr rfl) hN hK hP hD hS hF dX2_isKnowing_17
theorem kX4_bringing_f17 : Cond.fieldLink RX4 17 "LeastAsked$Province" "people" "[LLeastAsked$Person;" ∈ wsX4_bringing := by decide +kernel
theorem kX4_bringing_f9 : Cond.fieldLink RX4 9 "LeastAsked$Province" "worths" "[I" ∈ wsX4_bringing := by decide +kernel
theorem iX4_bringing_X4 : ∀ w ∈ u_ws RX4 TX4 3, w ∈ wsX4_bringing := fun _ h => List.mem_cons_of_mem _ (List.mem_append_left _ (List.mem_append_right _ h))
set_option maxHeartbeats 4000000 in
set_option maxRecDepth 100000 in
theorem CX4_bringing (l : Launch) (D : va_G) (cI cS cP : ClassId) (ad : Nat → Nat) (A : Nat → Prop) (n : Nat) (σ σ' : zMem) (r0 : Int32) (o : Nat) (p1 : Int32) (p2 : Int32) (ho : zk o = 4) (hF : FX4_bringing n o σ p1 p2 = some (r0, σ')) : Met l yX4_bringing wsX4_bringing ({ frames := 1, cells := 0, slots := 0, locals := 21 } : Room) (va_Pc [.ref (ad o), .int p1, .int p2] (zB (zx cI cS cP ad) 41 ad D (zty cI cS cP) A σ)) (va_Qi (fun r u => r = r0 ∧ u = σ') (zB (zx cI cS cP ad) 41 ad D (zty cI cS cP) A) A) 0 0 A := by
  refine Met.ofW (cc := cX4_bringing) (maxL := 4) (ret := (some .int)) (by decide) rfl ?_
  intro p e s m args below meth c s₁ B hml hv
  obtain ⟨rfl, hP, hK, hD, hN⟩ := hv
  have hx := B.exec
  have hb := B.bytes
  have hr := B.returns
  have hts := atoms_spec (ws := wsX4_bringing) B.pre
  have hown : s.vm.findClass RX4 = some m.cls := findClass_of_methodNamed B.named
  have hlocks := B.notSynchronized
  have hS : va_S A s.heap s.heap [] := va_S.rf
  have hl := lv_entry ([.ref (ad o), .int p1, .int p2]) (n := 4) (Nat.le_of_ble_eq_true rfl)
  rw [lg_entry_eq]
  generalize (lg_sl ([.ref (ad o), .int p1, .int p2]) ++ List.replicate (4 - (lg_sl ([.ref (ad o), .int p1, .int p2])).length) Slot.unset).toArray = ls at hl ⊢
  have hl : lv_has ls 4 [(0, .ref (ad o)), (1, .int p1), (2, .int p2)] := hl
  clear B
  unfold FX4_bringing at hF
  refine lv_aload_n hx hb dX4_bringing_0 rfl (lv_at hl 0 rfl) ?_
  refine z_get (ci := 4) (C := RX4) (T := TX4) (N := 3) hx hb hts iX4_bringing_X4 hown hK hP (zk_lt ho (by decide)) (zx_4 ho) rfl 1 (by decide) kX4_bringing_f17 rfl (v := .ref (ad (o + 2))) rfl dX4_bringing_1 ?_
  refine lv_iload_n hx hb dX4_bringing_4 rfl (lv_at hl 1 rfl) ?_
  obtain ⟨g1, hF⟩ := zgd_inv hF
  refine z_aldq hx hb hK hP 2 (zk_lt (zk_4p ho) (by decide)) (zx_22 (zk_4p ho)) rfl g1 dX4_bringing_5 ?_
  obtain ⟨r3, σ2, hC4, hF⟩ := zbd_inv hF
  refine z_calli (va_runV (As := []) (rest := []) ⟨hx, hb, hml, hown, hts⟩ (CX2_saying l D cI cS cP ad A n σ σ2 r3 ((o + 3) + (p1 : Int32).toNatClampNeg) (zk_22p (zk_4p ho) g1) hC4) (cwV 0 hts gX4_bringing_X2_saying rfl rfl rfl (by decide +kernel) ⟨Nat.le_of_ble_eq_true rfl, Nat.le_of_ble_eq_true rfl⟩) (z_preV hN hK hP hD (zk_lt (zk_22p (zk_4p ho) g1) (by decide)) (zx_2 (zk_22p (zk_4p ho) g1)) rfl) rfl rfl hl.1 rfl (lv_room (Nat.le_of_ble_eq_true rfl)) dX4_bringing_6 ⟨Nat.zero_le _, Nat.zero_le _⟩) hS (fun H locs hP hD hS => ?_)
  refine lv_istore_n (lv' := [(3, .int r3), (0, .ref (ad o)), (1, .int p1), (2, .int p2)]) hx hb dX4_bringing_9 rfl hl (by decide) rfl (fun ls hl => ?_)
  refine lv_aload_n hx hb dX4_bringing_10 rfl (lv_at hl 1 rfl) ?_
  refine z_get (ci := 4) (C := RX4) (T := TX4) (N := 3) hx hb hts iX4_bringing_X4 hown hK hP (zk_lt ho (by decide)) (zx_4 ho) rfl 1 (by decide) kX4_bringing_f17 rfl (v := .ref (ad (o + 2))) rfl dX4_bringing_11 ?_
  refine lv_iload_n hx hb dX4_bringing_14 rfl (lv_at hl 2 rfl) ?_
  obtain ⟨g5, hF⟩ := zgd_inv hF
  refine z_aldq hx hb hK hP 2 (zk_lt (zk_4p ho) (by decide)) (zx_22 (zk_4p ho)) rfl g5 dX4_bringing_15 ?_
  refine lv_iload_n hx hb dX4_bringing_16 rfl (lv_at hl 3 rfl) ?_
  obtain ⟨r7, σ6, hC8, hF⟩ := zbd_inv hF
  refine z_calli (va_runV (As := [.int p2]) (rest := []) ⟨hx, hb, hml, hown, hts⟩ (CX2_isKnowing l D cI cS cP ad A n σ2 σ6 r7 ((o + 3) + (p1 : Int32).toNatClampNeg) p2 (zk_22p (zk_4p ho) g5) hC8) (cwV 1 hts gX4_bringing_X2_isKnowing rfl rfl rfl (by decide +kernel) ⟨Nat.le_of_ble_eq_true rfl, Nat.le_of_ble_eq_true rfl⟩) (z_preV hN hK hP hD (zk_lt (zk_22p (zk_4p ho) g5) (by decide)) (zx_2 (zk_22p (zk_4p ho) g5)) rfl) rfl rfl hl.1 rfl (lv_room (Nat.le_of_ble_eq_true rfl)) dX4_bringing_17 ⟨Nat.zero_le _, Nat.zero_le _⟩) hS (fun H locs hP hD hS => ?_)
  refine lv_if_eq (tgt := 34) hx hb dX4_bringing_20 (by decide) (fun b9 => ?_) (fun b9 => ?_)
  · have hF := zif_t b9 hF
    refine lv_iload_n hx hb dX4_bringing_34 rfl (lv_at hl 0 rfl) ?_
    exact z_iret hx hb hr hlocks hN hK hP hD hS hF dX4_bringing_35
  · have hF := zif_f b9 hF
    refine lv_iload_n hx hb dX4_bringing_23 rfl (lv_at hl 0 rfl) ?_
    refine lv_aload_n hx hb dX4_bringing_24 rfl (lv_at hl 1 rfl) ?_
    refine z_get (ci := 4) (C := RX4) (T := TX4) (N := 3) hx hb hts iX4_bringing_X4 hown hK hP (zk_lt ho (by decide)) (zx_4 ho) rfl 0 (by decide) kX4_bringing_f9 rfl (v := .ref (ad (o + 1))) rfl dX4_bringing_25 ?_
    refine lv_iload_n hx hb dX4_bringing_28 rfl (lv_at hl 3 rfl) ?_
    obtain ⟨g10, hF⟩ := zgd_inv hF
    refine z_iald hx hb hK hP (zk_lt (zk_4w ho) (by decide)) (zx_103 (zk_4w ho)) rfl g10 dX4_bringing_29 ?_
    refine lv_imul hx hb dX4_bringing_30 ?_
    refine lv_goto (tgt := 35) hx hb dX4_bringing_31 (by decide) ?_
    exact z_iret hx hb hr hlocks hN hK hP hD hS hF dX4_bringing_35
set_option maxHeartbeats 4000000 in
set_option maxRecDepth 100000 in
theorem CX1_gain (l : Launch) (D : va_G) (cI cS cP : ClassId) (ad : Nat → Nat) (A : Nat → Prop) (n : Nat) (σ σ' : zMem) (r0 : Int32) (q3 : Nat) (p1 : Int32) (p2 : Int32) (hq3 : zk q3 = 4) (hF : FX1_gain n q3 σ p1 p2 = some (r0, σ')) : Met l yX1_gain wsX1_gain ({ frames := 2, cells := 0, slots := 0, locals := 44 } : Room) (va_Pc [.int p1, .int p2, .ref (ad q3)] (zB (zx cI cS cP ad) 41 ad D (zty cI cS cP) A σ)) (va_Qi (fun r u => r = r0 ∧ u = σ') (zB (zx cI cS cP ad) 41 ad D (zty cI cS cP) A) A) 0 0 A := by
  refine Met.ofW (cc := cX1_gain) (maxL := 3) (ret := (some .int)) (by decide) rfl ?_
  intro p e s m args below meth c s₁ B hml hv
  obtain ⟨rfl, hP, hK, hD, hN⟩ := hv
  have hx := B.exec
  have hb := B.bytes
  have hr := B.returns
  have hts := atoms_spec (ws := wsX1_gain) B.pre
  have hown : s.vm.findClass RX1 = some m.cls := findClass_of_methodNamed B.named
  have hlocks := B.notSynchronized
  have hS : va_S A s.heap s.heap [] := va_S.rf
  have hl := lv_entry ([.int p1, .int p2, .ref (ad q3)]) (n := 3) (Nat.le_of_ble_eq_true rfl)
  rw [lg_entry_eq]
  generalize (lg_sl ([.int p1, .int p2, .ref (ad q3)]) ++ List.replicate (3 - (lg_sl ([.int p1, .int p2, .ref (ad q3)])).length) Slot.unset).toArray = ls at hl ⊢
  have hl : lv_has ls 3 [(0, .int p1), (1, .int p2), (2, .ref (ad q3))] := hl
  clear B
  unfold FX1_gain at hF
  refine lv_aload_n hx hb dX1_gain_0 rfl (lv_at hl 2 rfl) ?_
  refine lv_iload_n hx hb dX1_gain_1 rfl (lv_at hl 0 rfl) ?_
  obtain ⟨r2, σ1, hC3, hF⟩ := zbd_inv hF
  refine z_calli (va_runV (As := [.int p1]) (rest := []) ⟨hx, hb, hml, hown, hts⟩ (CX4_hasPerson l D cI cS cP ad A n σ σ1 r2 q3 p1 hq3 hC3) (cwV 1 hts gX1_gain_X4_hasPerson rfl rfl rfl (by decide +kernel) ⟨Nat.le_of_ble_eq_true rfl, Nat.le_of_ble_eq_true rfl⟩) (z_preV hN hK hP hD (zk_lt hq3 (by decide)) (zx_4 hq3) rfl) rfl rfl hl.1 rfl (lv_room (Nat.le_of_ble_eq_true rfl)) dX1_gain_2 ⟨Nat.zero_le _, Nat.zero_le _⟩) hS (fun H locs hP hD hS => ?_)
  refine lv_if_eq (tgt := 17) hx hb dX1_gain_5 (by decide) (fun b4 => ?_) (fun b4 => ?_)
  · have hF := zif_t b4 hF
    refine lv_iconst (v := (0 : Int32)) hx hb dX1_gain_17 (by decide) ?_
    exact z_iret hx hb hr hlocks hN hK hP hD hS hF dX1_gain_18
  · have hF := zif_f b4 hF
    refine lv_aload_n hx hb dX1_gain_8 rfl (lv_at hl 2 rfl) ?_
    refine lv_iload_n hx hb dX1_gain_9 rfl (lv_at hl 0 rfl) ?_
    refine lv_iload_n hx hb dX1_gain_10 rfl (lv_at hl 1 rfl) ?_
    obtain ⟨r6, σ5, hC7, hF⟩ := zbd_inv hF
    refine z_calli (va_runV (As := [.int p1, .int p2]) (rest := []) ⟨hx, hb, hml, hown, hts⟩ (CX4_bringing l D cI cS cP ad A n σ1 σ5 r6 q3 p1 p2 hq3 hC7) (cwV 2 hts gX1_gain_X4_bringing rfl rfl rfl (by decide +kernel) ⟨Nat.le_of_ble_eq_true rfl, Nat.le_of_ble_eq_true rfl⟩) (z_preV hN hK hP hD (zk_lt hq3 (by decide)) (zx_4 hq3) rfl) rfl rfl hl.1 rfl (lv_room (Nat.le_of_ble_eq_true rfl)) dX1_gain_11 ⟨Nat.zero_le _, Nat.zero_le _⟩) hS (fun H locs hP hD hS => ?_)
    refine lv_goto (tgt := 18) hx hb dX1_gain_14 (by decide) ?_
    exact z_iret hx hb hr hlocks hN hK hP hD hS hF dX1_gain_18
theorem kX1_consider_f9 : Cond.fieldLink RX1 9 "LeastAsked$Giver" "row" "[I" ∈ wsX1_consider := by decide +kernel
theorem kX1_consider_m28 : Cond.methodLink RX1 28 Lib.Math.min.name ∈ wsX1_consider := by decide +kernel
theorem kX1_consider_s28 : Cond.static Lib.Math.min.name ∈ wsX1_consider := by decide +kernel
theorem kX1_consider_iM : Cond.initialized "java/lang/Math" ∈ wsX1_consider := by decide +kernel
theorem kX1_consider_c28 : Cond.code Lib.Math.min.name Lib.Math.min.code 2 (some .int) ∈ wsX1_consider := by decide +kernel
theorem kX1_consider_f15 : Cond.fieldLink RX1 15 "LeastAsked$Giver" "most" "I" ∈ wsX1_consider := by decide +kernel
theorem kX1_consider_f19 : Cond.fieldLink RX1 19 "LeastAsked$Province" "count" "I" ∈ wsX1_consider := by decide +kernel
theorem iX1_consider_X1 : ∀ w ∈ u_ws RX1 TX1 2, w ∈ wsX1_consider := fun _ h => List.mem_cons_of_mem _ (List.mem_append_left _ (List.mem_append_right _ h))
theorem iX1_consider_X4 : ∀ w ∈ u_ws RX4 TX4 3, w ∈ wsX1_consider := fun _ h => List.mem_cons_of_mem _ (List.mem_append_left _ (List.mem_append_left _ (List.mem_append_right _ h)))
set_option maxHeartbeats 4000000 in
set_option maxRecDepth 100000 in
theorem CX1_consider (l : Launch) (D : va_G) (cI cS cP : ClassId) (ad : Nat → Nat) (A : Nat → Prop) (n : Nat) (σ σ' : zMem) (r0 : Int32) (o : Nat) (q4 : Nat) (p1 : Int32) (p2 : Int32) (p3 : Int32) (ho : zk o = 1) (hq4 : zk q4 = 4) (hF : FX1_consider n o q4 σ p1 p2 p3 = some (r0, σ')) : Met l yX1_consider wsX1_consider ({ frames := 3, cells := 0, slots := 0, locals := 66 } : Room) (va_Pc [.ref (ad o), .int p1, .int p2, .int p3, .ref (ad q4)] (zB (zx cI cS cP ad) 41 ad D (zty cI cS cP) A σ)) (va_Qv (fun u => u = σ') (zB (zx cI cS cP ad) 41 ad D (zty cI cS cP) A) A) 0 0 A := by
  refine Met.ofW (cc := cX1_consider) (maxL := 9) (ret := none) (by decide) rfl ?_
  intro p e s m args below meth c s₁ B hml hv
  obtain ⟨rfl, hP, hK, hD, hN⟩ := hv
  have hx := B.exec
  have hb := B.bytes
  have hr := B.returns
  have hts := atoms_spec (ws := wsX1_consider) B.pre
  have hown : s.vm.findClass RX1 = some m.cls := findClass_of_methodNamed B.named
  have hlocks := B.notSynchronized
  have hS : va_S A s.heap s.heap [] := va_S.rf
  have hl := lv_entry ([.ref (ad o), .int p1, .int p2, .int p3, .ref (ad q4)]) (n := 9) (Nat.le_of_ble_eq_true rfl)
  rw [lg_entry_eq]
  generalize (lg_sl ([.ref (ad o), .int p1, .int p2, .int p3, .ref (ad q4)]) ++ List.replicate (9 - (lg_sl ([.ref (ad o), .int p1, .int p2, .int p3, .ref (ad q4)])).length) Slot.unset).toArray = ls at hl ⊢
  have hl : lv_has ls 9 [(0, .ref (ad o)), (1, .int p1), (2, .int p2), (3, .int p3), (4, .ref (ad q4))] := hl
  clear B
  have hB176 : ∀ (σ : zMem) (l1 : Int32) (l2 : Int32) (l3 : Int32) (l5 : Int32) (l6 : Int32) (l7 : Int32) (l8 : Int32) (s1 : Int32) (s2 : Int32), ∀ (H : Heap) (locs : List Loc) (ls : Array Slot), BX1_consider_176 n o q4 σ l1 l2 l3 l5 l6 l7 l8 s1 s2 = some (r0, σ') → va_P D vwCl (zW (zx cI cS cP ad) 41 ad σ) H → va_D A (zW (zx cI cS cP ad) 41 ad σ) → va_S A s.heap H locs → lv_has ls 9 [(0, .ref (ad o)), (1, .int l1), (2, .int l2), (3, .int l3), (4, .ref (ad q4)), (5, .int l5), (6, .int l6), (7, .int l7), (8, .int l8)] → W p l e (headSpec wsX1_consider ({ frames := 3, cells := 0, slots := 0, locals := 66 } : Room)).room s m ([.ref (ad o), .int p1, .int p2, .int p3, .ref (ad q4)] : List Value).toArray below meth c H locs 0 0 (MQ below (va_Qv (fun u => u = σ') (zB (zx cI cS cP ad) 41 ad D (zty cI cS cP) A) A) ([.ref (ad o), .int p1, .int p2, .int p3, .ref (ad q4)] : List Value).toArray s 0 0 A) (F0 m 176 ls [.int s2, .int s1, .ref (ad (o + 1))]) := by
    intro σ l1 l2 l3 l5 l6 l7 l8 s1 s2 H locs ls hF hP hD hS hl
    unfold BX1_consider_176 at hF
    obtain ⟨g1, hF⟩ := zgd_inv hF
    obtain ⟨σ2, eσ2, hF⟩ := zlet_inv hF
    refine z_iast hx hb hK hP hD hS (zk_lt (zk_1r ho) (by decide)) (fun _ => (zx_103 (zk_1r ho))) rfl g1 dX1_consider_176 (fun H locs hP hD hS => ?_)
    have hP : va_P D vwCl (zW (zx cI cS cP ad) 41 ad σ2) H := by rw [eσ2]; exact hP
    have hD : va_D A (zW (zx cI cS cP ad) 41 ad σ2) := by rw [eσ2]; exact hD
    refine lv_aload_n hx hb dX1_consider_177 rfl (lv_at hl 0 rfl) ?_
    refine z_get (ci := 1) (C := RX1) (T := TX1) (N := 2) hx hb hts iX1_consider_X1 hown hK hP (zk_lt ho (by decide)) (zx_1 ho) rfl 0 (by decide) kX1_consider_f9 rfl (v := .ref (ad (o + 1))) rfl dX1_consider_178 ?_
    refine lv_iconst (v := (2 : Int32)) hx hb dX1_consider_181 (by decide) ?_
    refine lv_iload_n hx hb dX1_consider_182 rfl (lv_at hl 3 rfl) ?_
    refine lv_iload hx hb dX1_consider_183 (lv_at hl 5 rfl) ?_
    refine lv_icmp_ne (tgt := 193) hx hb dX1_consider_185 (by decide) (fun b3 => ?_) (fun b3 => ?_)
    · have hF := zif_f b3 hF
      refine lv_iload_n hx hb dX1_consider_193 rfl (lv_at hl 3 rfl) ?_
      obtain ⟨σ4, eσ4, hF⟩ := zlet_inv hF
      refine z_iast hx hb hK hP hD hS (zk_lt (zk_1r ho) (by decide)) (fun _ => (zx_103 (zk_1r ho))) rfl (by decide) dX1_consider_194 (fun H locs hP hD hS => ?_)
      have hP : va_P D vwCl (zW (zx cI cS cP ad) 41 ad σ4) H := by rw [eσ4]; exact hP
      have hD : va_D A (zW (zx cI cS cP ad) 41 ad σ4) := by rw [eσ4]; exact hD
      exact z_vret hx hb hr hlocks hN hK hP hD hS hF dX1_consider_195
    · have hF := zif_t b3 hF
      refine lv_bipush (v := (-9 : Int32)) hx hb dX1_consider_188 (by decide) ?_
      refine lv_goto (tgt := 194) hx hb dX1_consider_190 (by decide) ?_
      obtain ⟨σ5, eσ5, hF⟩ := zlet_inv hF
      refine z_iast hx hb hK hP hD hS (zk_lt (zk_1r ho) (by decide)) (fun _ => (zx_103 (zk_1r ho))) rfl (by decide) dX1_consider_194 (fun H locs hP hD hS => ?_)
      have hP : va_P D vwCl (zW (zx cI cS cP ad) 41 ad σ5) H := by rw [eσ5]; exact hP
      have hD : va_D A (zW (zx cI cS cP ad) 41 ad σ5) := by rw [eσ5]; exact hD
      exact z_vret hx hb hr hlocks hN hK hP hD hS hF dX1_consider_195
  have hB158 : ∀ (σ : zMem) (l1 : Int32) (l2 : Int32) (l3 : Int32) (l5 : Int32) (l6 : Int32) (l7 : Int32) (l8 : Int32) (s1 : Int32) (s2 : Int32), ∀ (H : Heap) (locs : List Loc) (ls : Array Slot), BX1_consider_158 n o q4 σ l1 l2 l3 l5 l6 l7 l8 s1 s2 = some (r0, σ') → va_P D vwCl (zW (zx cI cS cP ad) 41 ad σ) H → va_D A (zW (zx cI cS cP ad) 41 ad σ) → va_S A s.heap H locs → lv_has ls 9 [(0, .ref (ad o)), (1, .int l1), (2, .int l2), (3, .int l3), (4, .ref (ad q4)), (5, .int l5), (6, .int l6), (7, .int l7), (8, .int l8)] → W p l e (headSpec wsX1_consider ({ frames := 3, cells := 0, slots := 0, locals := 66 } : Room)).room s m ([.ref (ad o), .int p1, .int p2, .int p3, .ref (ad q4)] : List Value).toArray below meth c H locs 0 0 (MQ below (va_Qv (fun u => u = σ') (zB (zx cI cS cP ad) 41 ad D (zty cI cS cP) A) A) ([.ref (ad o), .int p1, .int p2, .int p3, .ref (ad q4)] : List Value).toArray s 0 0 A) (F0 m 158 ls [.int s2, .int s1, .ref (ad (o + 1))]) := by
    intro σ l1 l2 l3 l5 l6 l7 l8 s1 s2 H locs ls hF hP hD hS hl
    unfold BX1_consider_158 at hF
    obtain ⟨g6, hF⟩ := zgd_inv hF
    obtain ⟨σ7, eσ7, hF⟩ := zlet_inv hF
    refine z_iast hx hb hK hP hD hS (zk_lt (zk_1r ho) (by decide)) (fun _ => (zx_103 (zk_1r ho))) rfl g6 dX1_consider_158 (fun H locs hP hD hS => ?_)
    have hP : va_P D vwCl (zW (zx cI cS cP ad) 41 ad σ7) H := by rw [eσ7]; exact hP
    have hD : va_D A (zW (zx cI cS cP ad) 41 ad σ7) := by rw [eσ7]; exact hD
    refine lv_aload_n hx hb dX1_consider_159 rfl (lv_at hl 0 rfl) ?_
    refine z_get (ci := 1) (C := RX1) (T := TX1) (N := 2) hx hb hts iX1_consider_X1 hown hK hP (zk_lt ho (by decide)) (zx_1 ho) rfl 0 (by decide) kX1_consider_f9 rfl (v := .ref (ad (o + 1))) rfl dX1_consider_160 ?_
    refine lv_iconst (v := (1 : Int32)) hx hb dX1_consider_163 (by decide) ?_
    refine lv_iload_n hx hb dX1_consider_164 rfl (lv_at hl 2 rfl) ?_
    refine lv_iload hx hb dX1_consider_165 (lv_at hl 5 rfl) ?_
    refine lv_icmp_ne (tgt := 175) hx hb dX1_consider_167 (by decide) (fun b8 => ?_) (fun b8 => ?_)
    · have hF := zif_f b8 hF
      refine lv_iload_n hx hb dX1_consider_175 rfl (lv_at hl 2 rfl) ?_
      exact hB176 σ7 l1 l2 l3 l5 l6 l7 l8 (1 : Int32) l2 _ _ _ hF hP hD hS (lv_sub hl [0, 1, 2, 3, 4, 5, 6, 7, 8] rfl)
    · have hF := zif_t b8 hF
      refine lv_bipush (v := (-9 : Int32)) hx hb dX1_consider_170 (by decide) ?_
      refine lv_goto (tgt := 176) hx hb dX1_consider_172 (by decide) ?_
      exact hB176 σ7 l1 l2 l3 l5 l6 l7 l8 (1 : Int32) (-9 : Int32) _ _ _ hF hP hD hS (lv_sub hl [0, 1, 2, 3, 4, 5, 6, 7, 8] rfl)
  have hB81 : ∀ (σ : zMem) (l1 : Int32) (l2 : Int32) (l3 : Int32) (l5 : Int32) (l6 : Int32) (s0 : Int32) (s1 : Int32), ∀ (H : Heap) (locs : List Loc) (ls : Array Slot), BX1_consider_81 n o q4 σ l1 l2 l3 l5 l6 s0 s1 = some (r0, σ') → va_P D vwCl (zW (zx cI cS cP ad) 41 ad σ) H → va_D A (zW (zx cI cS cP ad) 41 ad σ) → va_S A s.heap H locs → lv_has ls 9 [(0, .ref (ad o)), (1, .int l1), (2, .int l2), (3, .int l3), (4, .ref (ad q4)), (5, .int l5), (6, .int l6)] → W p l e (headSpec wsX1_consider ({ frames := 3, cells := 0, slots := 0, locals := 66 } : Room)).room s m ([.ref (ad o), .int p1, .int p2, .int p3, .ref (ad q4)] : List Value).toArray below meth c H locs 0 0 (MQ below (va_Qv (fun u => u = σ') (zB (zx cI cS cP ad) 41 ad D (zty cI cS cP) A) A) ([.ref (ad o), .int p1, .int p2, .int p3, .ref (ad q4)] : List Value).toArray s 0 0 A) (F0 m 81 ls [.int s1, .int s0]) := by
    intro σ l1 l2 l3 l5 l6 s0 s1 H locs ls hF hP hD hS hl
    unfold BX1_consider_81 at hF
    refine lv_iadd hx hb dX1_consider_81 ?_
    refine lv_istore (lv' := [(7, .int (s0 + s1)), (0, .ref (ad o)), (1, .int l1), (2, .int l2), (3, .int l3), (4, .ref (ad q4)), (5, .int l5), (6, .int l6)]) hx hb dX1_consider_82 hl (by decide) rfl (fun ls hl => ?_)
    refine lv_iload hx hb dX1_consider_84 (lv_at hl 7 rfl) ?_
    refine lv_if_ne (tgt := 100) hx hb dX1_consider_86 (by decide) (fun b9 => ?_) (fun b9 => ?_)
    · have hF := zif_f b9 hF
      exact z_vret hx hb hr hlocks hN hK hP hD hS hF dX1_consider_100
    · have hF := zif_t b9 hF
      refine lv_iload hx hb dX1_consider_89 (lv_at hl 0 rfl) ?_
      refine lv_iconst (v := (3 : Int32)) hx hb dX1_consider_91 (by decide) ?_
      refine lv_iload hx hb dX1_consider_92 (lv_at hl 6 rfl) ?_
      refine va_mmin hx hb (hml.trans hl.1.symm) hown (hts _ kX1_consider_m28) (hts _ kX1_consider_s28) (hts _ kX1_consider_iM) (hts _ kX1_consider_c28) (Nat.le_of_ble_eq_true rfl) (Nat.le_of_ble_eq_true rfl) (Nat.zero_le _) (Nat.zero_le _) dX1_consider_94 ?_
      refine lv_icmp_eq (tgt := 101) hx hb dX1_consider_97 (by decide) (fun b10 => ?_) (fun b10 => ?_)
      · have hF := zif_t b10 hF
        refine lv_iload_n hx hb dX1_consider_101 rfl (lv_at hl 2 rfl) ?_
        refine lv_iconst (v := (0 : Int32)) hx hb dX1_consider_102 (by decide) ?_
        refine lv_aload hx hb dX1_consider_103 (lv_at hl 5 rfl) ?_
        obtain ⟨r12, σ11, hC13, hF⟩ := zbd_inv hF
        refine z_calli (va_runS (As := [.int l1, .int (0 : Int32), .ref (ad q4)]) (rest := []) ⟨hx, hb, hml, hown, hts⟩ (CX1_gain l D cI cS cP ad A n σ σ11 r12 q4 l1 (0 : Int32) hq4 hC13) (va_cwS 3 hts gX1_consider_X1_gain rfl rfl rfl (by decide +kernel) ⟨Nat.le_of_ble_eq_true rfl, Nat.le_of_ble_eq_true rfl⟩) (z_preS hN hK hP hD) rfl rfl hl.1 rfl (lv_room (Nat.le_of_ble_eq_true rfl)) dX1_consider_105 ⟨Nat.zero_le _, Nat.zero_le _⟩) hS (fun H locs hP hD hS => ?_)
        refine lv_iload_n hx hb dX1_consider_108 rfl (lv_at hl 3 rfl) ?_
        refine lv_iconst (v := (1 : Int32)) hx hb dX1_consider_109 (by decide) ?_
        refine lv_aload hx hb dX1_consider_110 (lv_at hl 5 rfl) ?_
        obtain ⟨r15, σ14, hC16, hF⟩ := zbd_inv hF
        refine z_calli (va_runS (As := [.int l2, .int (1 : Int32), .ref (ad q4)]) (rest := [.int r12]) ⟨hx, hb, hml, hown, hts⟩ (CX1_gain l D cI cS cP ad A n σ11 σ14 r15 q4 l2 (1 : Int32) hq4 hC16) (va_cwS 3 hts gX1_consider_X1_gain rfl rfl rfl (by decide +kernel) ⟨Nat.le_of_ble_eq_true rfl, Nat.le_of_ble_eq_true rfl⟩) (z_preS hN hK hP hD) rfl rfl hl.1 rfl (lv_room (Nat.le_of_ble_eq_true rfl)) dX1_consider_112 ⟨Nat.zero_le _, Nat.zero_le _⟩) hS (fun H locs hP hD hS => ?_)
        refine lv_iadd hx hb dX1_consider_115 ?_
        refine lv_iload_n hx hb dX1_consider_116 rfl (lv_at hl 4 rfl) ?_
        refine lv_iconst (v := (2 : Int32)) hx hb dX1_consider_117 (by decide) ?_
        refine lv_aload hx hb dX1_consider_118 (lv_at hl 5 rfl) ?_
        obtain ⟨r18, σ17, hC19, hF⟩ := zbd_inv hF
        refine z_calli (va_runS (As := [.int l3, .int (2 : Int32), .ref (ad q4)]) (rest := [.int (r12 + r15)]) ⟨hx, hb, hml, hown, hts⟩ (CX1_gain l D cI cS cP ad A n σ14 σ17 r18 q4 l3 (2 : Int32) hq4 hC19) (va_cwS 3 hts gX1_consider_X1_gain rfl rfl rfl (by decide +kernel) ⟨Nat.le_of_ble_eq_true rfl, Nat.le_of_ble_eq_true rfl⟩) (z_preS hN hK hP hD) rfl rfl hl.1 rfl (lv_room (Nat.le_of_ble_eq_true rfl)) dX1_consider_120 ⟨Nat.zero_le _, Nat.zero_le _⟩) hS (fun H locs hP hD hS => ?_)
        refine lv_iadd hx hb dX1_consider_123 ?_
        refine lv_istore (lv' := [(8, .int ((r12 + r15) + r18)), (7, .int (s0 + s1)), (0, .ref (ad o)), (1, .int l1), (2, .int l2), (3, .int l3), (4, .ref (ad q4)), (5, .int l5), (6, .int l6)]) hx hb dX1_consider_124 hl (by decide) rfl (fun ls hl => ?_)
        refine lv_iload hx hb dX1_consider_126 (lv_at hl 0 rfl) ?_
        refine lv_aload_n hx hb dX1_consider_128 rfl (lv_at hl 2 rfl) ?_
        refine z_get (ci := 1) (C := RX1) (T := TX1) (N := 2) hx hb hts iX1_consider_X1 hown hK hP (zk_lt ho (by decide)) (zx_1 ho) rfl 1 (by decide) kX1_consider_f15 rfl (v := .int (σ17 o 1)) rfl dX1_consider_129 ?_
        refine lv_icmp_le (tgt := 195) hx hb dX1_consider_132 (by decide) (fun b20 => ?_) (fun b20 => ?_)
        · have hF := zif_t b20 hF
          exact z_vret hx hb hr hlocks hN hK hP hD hS hF dX1_consider_195
        · have hF := zif_f b20 hF
          refine lv_aload_n hx hb dX1_consider_135 rfl (lv_at hl 2 rfl) ?_
          refine lv_iload hx hb dX1_consider_136 (lv_at hl 0 rfl) ?_
          obtain ⟨σ21, eσ21, hF⟩ := zlet_inv hF
          refine z_put (ci := 1) (C := RX1) (T := TX1) (N := 2) hx hb hts iX1_consider_X1 tyX1 tyX1_ok nmX1 hown hK hP hD hS (zk_lt ho (by decide)) (zx_1 ho) rfl 1 (by decide) kX1_consider_f15 rfl rfl rfl rfl (Nat.le_of_ble_eq_true rfl) (zx_1 ho) dX1_consider_138 (fun H locs hP hD hS => ?_)
          have hP : va_P D vwCl (zW (zx cI cS cP ad) 41 ad σ21) H := by rw [eσ21]; exact hP
          have hD : va_D A (zW (zx cI cS cP ad) 41 ad σ21) := by rw [eσ21]; exact hD
          refine lv_aload_n hx hb dX1_consider_141 rfl (lv_at hl 2 rfl) ?_
          refine z_get (ci := 1) (C := RX1) (T := TX1) (N := 2) hx hb hts iX1_consider_X1 hown hK hP (zk_lt ho (by decide)) (zx_1 ho) rfl 0 (by decide) kX1_consider_f9 rfl (v := .ref (ad (o + 1))) rfl dX1_consider_142 ?_
          refine lv_iconst (v := (0 : Int32)) hx hb dX1_consider_145 (by decide) ?_
          refine lv_iload_n hx hb dX1_consider_146 rfl (lv_at hl 3 rfl) ?_
          refine lv_iload hx hb dX1_consider_147 (lv_at hl 7 rfl) ?_
          refine lv_icmp_ne (tgt := 157) hx hb dX1_consider_149 (by decide) (fun b22 => ?_) (fun b22 => ?_)
          · have hF := zif_f b22 hF
            refine lv_iload_n hx hb dX1_consider_157 rfl (lv_at hl 3 rfl) ?_
            exact hB158 σ21 l1 l2 l3 l5 l6 (s0 + s1) ((r12 + r15) + r18) (0 : Int32) l1 _ _ _ hF hP hD hS (lv_sub hl [2, 3, 4, 5, 6, 7, 8, 1, 0] rfl)
          · have hF := zif_t b22 hF
            refine lv_bipush (v := (-9 : Int32)) hx hb dX1_consider_152 (by decide) ?_
            refine lv_goto (tgt := 158) hx hb dX1_consider_154 (by decide) ?_
            exact hB158 σ21 l1 l2 l3 l5 l6 (s0 + s1) ((r12 + r15) + r18) (0 : Int32) (-9 : Int32) _ _ _ hF hP hD hS (lv_sub hl [2, 3, 4, 5, 6, 7, 8, 1, 0] rfl)
      · have hF := zif_f b10 hF
        exact z_vret hx hb hr hlocks hN hK hP hD hS hF dX1_consider_100
  have hB69 : ∀ (σ : zMem) (l1 : Int32) (l2 : Int32) (l3 : Int32) (l5 : Int32) (l6 : Int32) (s0 : Int32) (s1 : Int32), ∀ (H : Heap) (locs : List Loc) (ls : Array Slot), BX1_consider_69 n o q4 σ l1 l2 l3 l5 l6 s0 s1 = some (r0, σ') → va_P D vwCl (zW (zx cI cS cP ad) 41 ad σ) H → va_D A (zW (zx cI cS cP ad) 41 ad σ) → va_S A s.heap H locs → lv_has ls 9 [(0, .ref (ad o)), (1, .int l1), (2, .int l2), (3, .int l3), (4, .ref (ad q4)), (5, .int l5), (6, .int l6)] → W p l e (headSpec wsX1_consider ({ frames := 3, cells := 0, slots := 0, locals := 66 } : Room)).room s m ([.ref (ad o), .int p1, .int p2, .int p3, .ref (ad q4)] : List Value).toArray below meth c H locs 0 0 (MQ below (va_Qv (fun u => u = σ') (zB (zx cI cS cP ad) 41 ad D (zty cI cS cP) A) A) ([.ref (ad o), .int p1, .int p2, .int p3, .ref (ad q4)] : List Value).toArray s 0 0 A) (F0 m 69 ls [.int s1, .int s0]) := by
    intro σ l1 l2 l3 l5 l6 s0 s1 H locs ls hF hP hD hS hl
    unfold BX1_consider_69 at hF
    refine lv_iadd hx hb dX1_consider_69 ?_
    refine lv_iload_n hx hb dX1_consider_70 rfl (lv_at hl 3 rfl) ?_
    refine lv_iload hx hb dX1_consider_71 (lv_at hl 5 rfl) ?_
    refine lv_icmp_eq (tgt := 80) hx hb dX1_consider_73 (by decide) (fun b23 => ?_) (fun b23 => ?_)
    · have hF := zif_t b23 hF
      refine lv_iconst (v := (0 : Int32)) hx hb dX1_consider_80 (by decide) ?_
      exact hB81 σ l1 l2 l3 l5 l6 (s0 + s1) (0 : Int32) _ _ _ hF hP hD hS (lv_sub hl [0, 1, 2, 3, 4, 5, 6] rfl)
    · have hF := zif_f b23 hF
      refine lv_iconst (v := (1 : Int32)) hx hb dX1_consider_76 (by decide) ?_
      refine lv_goto (tgt := 81) hx hb dX1_consider_77 (by decide) ?_
      exact hB81 σ l1 l2 l3 l5 l6 (s0 + s1) (1 : Int32) _ _ _ hF hP hD hS (lv_sub hl [0, 1, 2, 3, 4, 5, 6] rfl)
  have hB58 : ∀ (σ : zMem) (l1 : Int32) (l2 : Int32) (l3 : Int32) (l5 : Int32) (l6 : Int32) (s0 : Int32), ∀ (H : Heap) (locs : List Loc) (ls : Array Slot), BX1_consider_58 n o q4 σ l1 l2 l3 l5 l6 s0 = some (r0, σ') → va_P D vwCl (zW (zx cI cS cP ad) 41 ad σ) H → va_D A (zW (zx cI cS cP ad) 41 ad σ) → va_S A s.heap H locs → lv_has ls 9 [(0, .ref (ad o)), (1, .int l1), (2, .int l2), (3, .int l3), (4, .ref (ad q4)), (5, .int l5), (6, .int l6)] → W p l e (headSpec wsX1_consider ({ frames := 3, cells := 0, slots := 0, locals := 66 } : Room)).room s m ([.ref (ad o), .int p1, .int p2, .int p3, .ref (ad q4)] : List Value).toArray below meth c H locs 0 0 (MQ below (va_Qv (fun u => u = σ') (zB (zx cI cS cP ad) 41 ad D (zty cI cS cP) A) A) ([.ref (ad o), .int p1, .int p2, .int p3, .ref (ad q4)] : List Value).toArray s 0 0 A) (F0 m 58 ls [.int s0]) := by
    intro σ l1 l2 l3 l5 l6 s0 H locs ls hF hP hD hS hl
    unfold BX1_consider_58 at hF
    refine lv_iload_n hx hb dX1_consider_58 rfl (lv_at hl 2 rfl) ?_
    refine lv_iload hx hb dX1_consider_59 (lv_at hl 5 rfl) ?_
    refine lv_icmp_eq (tgt := 68) hx hb dX1_consider_61 (by decide) (fun b24 => ?_) (fun b24 => ?_)
    · have hF := zif_t b24 hF
      refine lv_iconst (v := (0 : Int32)) hx hb dX1_consider_68 (by decide) ?_
      exact hB69 σ l1 l2 l3 l5 l6 s0 (0 : Int32) _ _ _ hF hP hD hS (lv_sub hl [0, 1, 2, 3, 4, 5, 6] rfl)
    · have hF := zif_f b24 hF
      refine lv_iconst (v := (1 : Int32)) hx hb dX1_consider_64 (by decide) ?_
      refine lv_goto (tgt := 69) hx hb dX1_consider_65 (by decide) ?_
      exact hB69 σ l1 l2 l3 l5 l6 s0 (1 : Int32) _ _ _ hF hP hD hS (lv_sub hl [0, 1, 2, 3, 4, 5, 6] rfl)
  have hB45 : ∀ (σ : zMem) (l1 : Int32) (l2 : Int32) (l3 : Int32) (l5 : Int32) (s0 : Int32), ∀ (H : Heap) (locs : List Loc) (ls : Array Slot), BX1_consider_45 n o q4 σ l1 l2 l3 l5 s0 = some (r0, σ') → va_P D vwCl (zW (zx cI cS cP ad) 41 ad σ) H → va_D A (zW (zx cI cS cP ad) 41 ad σ) → va_S A s.heap H locs → lv_has ls 9 [(0, .ref (ad o)), (1, .int l1), (2, .int l2), (3, .int l3), (4, .ref (ad q4)), (5, .int l5)] → W p l e (headSpec wsX1_consider ({ frames := 3, cells := 0, slots := 0, locals := 66 } : Room)).room s m ([.ref (ad o), .int p1, .int p2, .int p3, .ref (ad q4)] : List Value).toArray below meth c H locs 0 0 (MQ below (va_Qv (fun u => u = σ') (zB (zx cI cS cP ad) 41 ad D (zty cI cS cP) A) A) ([.ref (ad o), .int p1, .int p2, .int p3, .ref (ad q4)] : List Value).toArray s 0 0 A) (F0 m 45 ls [.int s0]) := by
    intro σ l1 l2 l3 l5 s0 H locs ls hF hP hD hS hl
    unfold BX1_consider_45 at hF
    refine lv_istore (lv' := [(6, .int s0), (0, .ref (ad o)), (1, .int l1), (2, .int l2), (3, .int l3), (4, .ref (ad q4)), (5, .int l5)]) hx hb dX1_consider_45 hl (by decide) rfl (fun ls hl => ?_)
    refine lv_iload_n hx hb dX1_consider_47 rfl (lv_at hl 2 rfl) ?_
    refine lv_iload hx hb dX1_consider_48 (lv_at hl 6 rfl) ?_
    refine lv_icmp_eq (tgt := 57) hx hb dX1_consider_50 (by decide) (fun b25 => ?_) (fun b25 => ?_)
    · have hF := zif_t b25 hF
      refine lv_iconst (v := (0 : Int32)) hx hb dX1_consider_57 (by decide) ?_
      exact hB58 σ l1 l2 l3 l5 s0 (0 : Int32) _ _ _ hF hP hD hS (lv_sub hl [1, 2, 3, 4, 5, 6, 0] rfl)
    · have hF := zif_f b25 hF
      refine lv_iconst (v := (1 : Int32)) hx hb dX1_consider_53 (by decide) ?_
      refine lv_goto (tgt := 58) hx hb dX1_consider_54 (by decide) ?_
      exact hB58 σ l1 l2 l3 l5 s0 (1 : Int32) _ _ _ hF hP hD hS (lv_sub hl [1, 2, 3, 4, 5, 6, 0] rfl)
  have hB44 : ∀ (σ : zMem) (l1 : Int32) (l2 : Int32) (l3 : Int32) (l5 : Int32), ∀ (H : Heap) (locs : List Loc) (ls : Array Slot), BX1_consider_44 n o q4 σ l1 l2 l3 l5 = some (r0, σ') → va_P D vwCl (zW (zx cI cS cP ad) 41 ad σ) H → va_D A (zW (zx cI cS cP ad) 41 ad σ) → va_S A s.heap H locs → lv_has ls 9 [(0, .ref (ad o)), (1, .int l1), (2, .int l2), (3, .int l3), (4, .ref (ad q4)), (5, .int l5)] → W p l e (headSpec wsX1_consider ({ frames := 3, cells := 0, slots := 0, locals := 66 } : Room)).room s m ([.ref (ad o), .int p1, .int p2, .int p3, .ref (ad q4)] : List Value).toArray below meth c H locs 0 0 (MQ below (va_Qv (fun u => u = σ') (zB (zx cI cS cP ad) 41 ad D (zty cI cS cP) A) A) ([.ref (ad o), .int p1, .int p2, .int p3, .ref (ad q4)] : List Value).toArray s 0 0 A) (F0 m 44 ls []) := by
    intro σ l1 l2 l3 l5 H locs ls hF hP hD hS hl
    unfold BX1_consider_44 at hF
    refine lv_iconst (v := (0 : Int32)) hx hb dX1_consider_44 (by decide) ?_
    exact hB45 σ l1 l2 l3 l5 (0 : Int32) _ _ _ hF hP hD hS (lv_sub hl [0, 1, 2, 3, 4, 5] rfl)
  have hB40 : ∀ (σ : zMem) (l1 : Int32) (l2 : Int32) (l3 : Int32) (l5 : Int32), ∀ (H : Heap) (locs : List Loc) (ls : Array Slot), BX1_consider_40 n o q4 σ l1 l2 l3 l5 = some (r0, σ') → va_P D vwCl (zW (zx cI cS cP ad) 41 ad σ) H → va_D A (zW (zx cI cS cP ad) 41 ad σ) → va_S A s.heap H locs → lv_has ls 9 [(0, .ref (ad o)), (1, .int l1), (2, .int l2), (3, .int l3), (4, .ref (ad q4)), (5, .int l5)] → W p l e (headSpec wsX1_consider ({ frames := 3, cells := 0, slots := 0, locals := 66 } : Room)).room s m ([.ref (ad o), .int p1, .int p2, .int p3, .ref (ad q4)] : List Value).toArray below meth c H locs 0 0 (MQ below (va_Qv (fun u => u = σ') (zB (zx cI cS cP ad) 41 ad D (zty cI cS cP) A) A) ([.ref (ad o), .int p1, .int p2, .int p3, .ref (ad q4)] : List Value).toArray s 0 0 A) (F0 m 40 ls []) := by
    intro σ l1 l2 l3 l5 H locs ls hF hP hD hS hl
    unfold BX1_consider_40 at hF
    refine lv_iconst (v := (1 : Int32)) hx hb dX1_consider_40 (by decide) ?_
    refine lv_goto (tgt := 45) hx hb dX1_consider_41 (by decide) ?_
    exact hB45 σ l1 l2 l3 l5 (1 : Int32) _ _ _ hF hP hD hS (lv_sub hl [0, 1, 2, 3, 4, 5] rfl)
  have hB29 : ∀ (σ : zMem) (l1 : Int32) (l2 : Int32) (l3 : Int32) (l5 : Int32), ∀ (H : Heap) (locs : List Loc) (ls : Array Slot), BX1_consider_29 n o q4 σ l1 l2 l3 l5 = some (r0, σ') → va_P D vwCl (zW (zx cI cS cP ad) 41 ad σ) H → va_D A (zW (zx cI cS cP ad) 41 ad σ) → va_S A s.heap H locs → lv_has ls 9 [(0, .ref (ad o)), (1, .int l1), (2, .int l2), (3, .int l3), (4, .ref (ad q4)), (5, .int l5)] → W p l e (headSpec wsX1_consider ({ frames := 3, cells := 0, slots := 0, locals := 66 } : Room)).room s m ([.ref (ad o), .int p1, .int p2, .int p3, .ref (ad q4)] : List Value).toArray below meth c H locs 0 0 (MQ below (va_Qv (fun u => u = σ') (zB (zx cI cS cP ad) 41 ad D (zty cI cS cP) A) A) ([.ref (ad o), .int p1, .int p2, .int p3, .ref (ad q4)] : List Value).toArray s 0 0 A) (F0 m 29 ls []) := by
    intro σ l1 l2 l3 l5 H locs ls hF hP hD hS hl
    unfold BX1_consider_29 at hF
    refine lv_iload_n hx hb dX1_consider_29 rfl (lv_at hl 2 rfl) ?_
    refine lv_iload_n hx hb dX1_consider_30 rfl (lv_at hl 3 rfl) ?_
    refine lv_icmp_ne (tgt := 44) hx hb dX1_consider_31 (by decide) (fun b26 => ?_) (fun b26 => ?_)
    · have hF := zif_f b26 hF
      exact hB44 σ l1 l2 l3 l5 _ _ _ hF hP hD hS (lv_sub hl [0, 1, 2, 3, 4, 5] rfl)
    · have hF := zif_t b26 hF
      refine lv_iload_n hx hb dX1_consider_34 rfl (lv_at hl 2 rfl) ?_
      refine lv_iload hx hb dX1_consider_35 (lv_at hl 5 rfl) ?_
      refine lv_icmp_eq (tgt := 44) hx hb dX1_consider_37 (by decide) (fun b27 => ?_) (fun b27 => ?_)
      · have hF := zif_t b27 hF
        exact hB44 σ l1 l2 l3 l5 _ _ _ hF hP hD hS (lv_sub hl [0, 1, 2, 3, 4, 5] rfl)
      · have hF := zif_f b27 hF
        exact hB40 σ l1 l2 l3 l5 _ _ _ hF hP hD hS (lv_sub hl [0, 1, 2, 3, 4, 5] rfl)
  have hB18 : ∀ (σ : zMem) (l1 : Int32) (l2 : Int32) (l3 : Int32) (l5 : Int32), ∀ (H : Heap) (locs : List Loc) (ls : Array Slot), BX1_consider_18 n o q4 σ l1 l2 l3 l5 = some (r0, σ') → va_P D vwCl (zW (zx cI cS cP ad) 41 ad σ) H → va_D A (zW (zx cI cS cP ad) 41 ad σ) → va_S A s.heap H locs → lv_has ls 9 [(0, .ref (ad o)), (1, .int l1), (2, .int l2), (3, .int l3), (4, .ref (ad q4)), (5, .int l5)] → W p l e (headSpec wsX1_consider ({ frames := 3, cells := 0, slots := 0, locals := 66 } : Room)).room s m ([.ref (ad o), .int p1, .int p2, .int p3, .ref (ad q4)] : List Value).toArray below meth c H locs 0 0 (MQ below (va_Qv (fun u => u = σ') (zB (zx cI cS cP ad) 41 ad D (zty cI cS cP) A) A) ([.ref (ad o), .int p1, .int p2, .int p3, .ref (ad q4)] : List Value).toArray s 0 0 A) (F0 m 18 ls []) := by
    intro σ l1 l2 l3 l5 H locs ls hF hP hD hS hl
    unfold BX1_consider_18 at hF
    refine lv_iload_n hx hb dX1_consider_18 rfl (lv_at hl 1 rfl) ?_
    refine lv_iload_n hx hb dX1_consider_19 rfl (lv_at hl 3 rfl) ?_
    refine lv_icmp_ne (tgt := 29) hx hb dX1_consider_20 (by decide) (fun b28 => ?_) (fun b28 => ?_)
    · have hF := zif_f b28 hF
      exact hB29 σ l1 l2 l3 l5 _ _ _ hF hP hD hS (lv_sub hl [0, 1, 2, 3, 4, 5] rfl)
    · have hF := zif_t b28 hF
      refine lv_iload_n hx hb dX1_consider_23 rfl (lv_at hl 1 rfl) ?_
      refine lv_iload hx hb dX1_consider_24 (lv_at hl 5 rfl) ?_
      refine lv_icmp_ne (tgt := 40) hx hb dX1_consider_26 (by decide) (fun b29 => ?_) (fun b29 => ?_)
      · have hF := zif_f b29 hF
        exact hB40 σ l1 l2 l3 l5 _ _ _ hF hP hD hS (lv_sub hl [0, 1, 2, 3, 4, 5] rfl)
      · have hF := zif_t b29 hF
        exact hB29 σ l1 l2 l3 l5 _ _ _ hF hP hD hS (lv_sub hl [0, 1, 2, 3, 4, 5] rfl)
  unfold FX1_consider at hF
  refine lv_aload hx hb dX1_consider_0 (lv_at hl 4 rfl) ?_
  refine z_get (ci := 4) (C := RX4) (T := TX4) (N := 3) hx hb hts iX1_consider_X4 hown hK hP (zk_lt hq4 (by decide)) (zx_4 hq4) rfl 2 (by decide) kX1_consider_f19 rfl (v := .int (σ q4 2)) rfl dX1_consider_2 ?_
  refine lv_istore (lv' := [(5, .int (σ q4 2)), (0, .ref (ad o)), (1, .int p1), (2, .int p2), (3, .int p3), (4, .ref (ad q4))]) hx hb dX1_consider_5 hl (by decide) rfl (fun ls hl => ?_)
  refine lv_iload_n hx hb dX1_consider_7 rfl (lv_at hl 2 rfl) ?_
  refine lv_iload_n hx hb dX1_consider_8 rfl (lv_at hl 3 rfl) ?_
  refine lv_icmp_ne (tgt := 18) hx hb dX1_consider_9 (by decide) (fun b30 => ?_) (fun b30 => ?_)
  · have hF := zif_f b30 hF
    exact hB18 σ p1 p2 p3 (σ q4 2) _ _ _ hF hP hD hS (lv_sub hl [1, 2, 3, 4, 5, 0] rfl)
  · have hF := zif_t b30 hF
    refine lv_iload_n hx hb dX1_consider_12 rfl (lv_at hl 2 rfl) ?_
    refine lv_iload hx hb dX1_consider_13 (lv_at hl 0 rfl) ?_
    refine lv_icmp_ne (tgt := 40) hx hb dX1_consider_15 (by decide) (fun b31 => ?_) (fun b31 => ?_)
    · have hF := zif_f b31 hF
      exact hB40 σ p1 p2 p3 (σ q4 2) _ _ _ hF hP hD hS (lv_sub hl [1, 2, 3, 4, 5, 0] rfl)
    · have hF := zif_t b31 hF
      exact hB18 σ p1 p2 p3 (σ q4 2) _ _ _ hF hP hD hS (lv_sub hl [1, 2, 3, 4, 5, 0] rfl)
theorem kX1_give_f19 : Cond.fieldLink RX1 19 "LeastAsked$Province" "count" "I" ∈ wsX1_give := by decide +kernel
theorem kX1_give_f15 : Cond.fieldLink RX1 15 "LeastAsked$Giver" "most" "I" ∈ wsX1_give := by decide +kernel
theorem iX1_give_X4 : ∀ w ∈ u_ws RX4 TX4 3, w ∈ wsX1_give := fun _ h => List.mem_cons_of_mem _ (List.mem_append_left _ (List.mem_append_left _ (List.mem_append_right _ h)))
theorem iX1_give_X1 : ∀ w ∈ u_ws RX1 TX1 2, w ∈ wsX1_give := fun _ h => List.mem_cons_of_mem _ (List.mem_append_left _ (List.mem_append_right _ h))
set_option maxHeartbeats 4000000 in
set_option maxRecDepth 100000 in
theorem CX1_give (l : Launch) (D : va_G) (cI cS cP : ClassId) (ad : Nat → Nat) (A : Nat → Prop) (n : Nat) (σ σ' : zMem) (r0 : Int32) (o : Nat) (q1 : Nat) (ho : zk o = 1) (hq1 : zk q1 = 4) (hF : FX1_give n o q1 σ = some (r0, σ')) : Met l yX1_give wsX1_give ({ frames := 4, cells := 0, slots := 0, locals := 94 } : Room) (va_Pc [.ref (ad o), .ref (ad q1)] (zB (zx cI cS cP ad) 41 ad D (zty cI cS cP) A σ)) (va_Qv (fun u => u = σ') (zB (zx cI cS cP ad) 41 ad D (zty cI cS cP) A) A) 0 0 A := by
  refine Met.ofW (cc := cX1_give) (maxL := 6) (ret := none) (by decide) rfl ?_
  intro p e s m args below meth c s₁ B hml hv
  obtain ⟨rfl, hP, hK, hD, hN⟩ := hv
  have hx := B.exec
  have hb := B.bytes
  have hr := B.returns
  have hts := atoms_spec (ws := wsX1_give) B.pre
  have hown : s.vm.findClass RX1 = some m.cls := findClass_of_methodNamed B.named
  have hlocks := B.notSynchronized
  have hS : va_S A s.heap s.heap [] := va_S.rf
  have hl := lv_entry ([.ref (ad o), .ref (ad q1)]) (n := 6) (Nat.le_of_ble_eq_true rfl)
  rw [lg_entry_eq]
  generalize (lg_sl ([.ref (ad o), .ref (ad q1)]) ++ List.replicate (6 - (lg_sl ([.ref (ad o), .ref (ad q1)])).length) Slot.unset).toArray = ls at hl ⊢
  have hl : lv_has ls 6 [(0, .ref (ad o)), (1, .ref (ad q1))] := hl
  clear B
  have hB12 : ∀ (f12 : Nat) (σ : zMem) (l2 : Int32) (l3 : Int32), ∀ (H : Heap) (locs : List Loc) (ls : Array Slot), zlp (LX1_give_12 n o q1) f12 (σ, l2, l3) = some (r0, σ') → va_P D vwCl (zW (zx cI cS cP ad) 41 ad σ) H → va_D A (zW (zx cI cS cP ad) 41 ad σ) → va_S A s.heap H locs → lv_has ls 6 [(0, .ref (ad o)), (1, .ref (ad q1)), (2, .int l2), (3, .int l3)] → W p l e (headSpec wsX1_give ({ frames := 4, cells := 0, slots := 0, locals := 94 } : Room)).room s m ([.ref (ad o), .ref (ad q1)] : List Value).toArray below meth c H locs 0 0 (MQ below (va_Qv (fun u => u = σ') (zB (zx cI cS cP ad) 41 ad D (zty cI cS cP) A) A) ([.ref (ad o), .ref (ad q1)] : List Value).toArray s 0 0 A) (F0 m 12 ls []) := by
    intro f12
    induction f12 with
    | zero => intro σ l2 l3 H locs ls hF hP hD hS hl; exact (zlp_0 hF).elim
    | succ f12 ih12 =>
      have hB20 : ∀ (f20 : Nat) (σ : zMem) (l2 : Int32) (l3 : Int32) (l4 : Int32), ∀ (H : Heap) (locs : List Loc) (ls : Array Slot), zlp (LX1_give_20 n o q1 (zlp (LX1_give_12 n o q1) f12)) f20 (σ, l2, l3, l4) = some (r0, σ') → va_P D vwCl (zW (zx cI cS cP ad) 41 ad σ) H → va_D A (zW (zx cI cS cP ad) 41 ad σ) → va_S A s.heap H locs → lv_has ls 6 [(0, .ref (ad o)), (1, .ref (ad q1)), (2, .int l2), (3, .int l3), (4, .int l4)] → W p l e (headSpec wsX1_give ({ frames := 4, cells := 0, slots := 0, locals := 94 } : Room)).room s m ([.ref (ad o), .ref (ad q1)] : List Value).toArray below meth c H locs 0 0 (MQ below (va_Qv (fun u => u = σ') (zB (zx cI cS cP ad) 41 ad D (zty cI cS cP) A) A) ([.ref (ad o), .ref (ad q1)] : List Value).toArray s 0 0 A) (F0 m 20 ls []) := by
        intro f20
        induction f20 with
        | zero => intro σ l2 l3 l4 H locs ls hF hP hD hS hl; exact (zlp_0 hF).elim
        | succ f20 ih20 =>
          have hB29 : ∀ (f29 : Nat) (σ : zMem) (l2 : Int32) (l3 : Int32) (l4 : Int32) (l5 : Int32), ∀ (H : Heap) (locs : List Loc) (ls : Array Slot), zlp (LX1_give_29 n o q1 (zlp (LX1_give_12 n o q1) f12) (zlp (LX1_give_20 n o q1 (zlp (LX1_give_12 n o q1) f12)) f20)) f29 (σ, l2, l3, l4, l5) = some (r0, σ') → va_P D vwCl (zW (zx cI cS cP ad) 41 ad σ) H → va_D A (zW (zx cI cS cP ad) 41 ad σ) → va_S A s.heap H locs → lv_has ls 6 [(0, .ref (ad o)), (1, .ref (ad q1)), (2, .int l2), (3, .int l3), (4, .int l4), (5, .int l5)] → W p l e (headSpec wsX1_give ({ frames := 4, cells := 0, slots := 0, locals := 94 } : Room)).room s m ([.ref (ad o), .ref (ad q1)] : List Value).toArray below meth c H locs 0 0 (MQ below (va_Qv (fun u => u = σ') (zB (zx cI cS cP ad) 41 ad D (zty cI cS cP) A) A) ([.ref (ad o), .ref (ad q1)] : List Value).toArray s 0 0 A) (F0 m 29 ls []) := by
            intro f29
            induction f29 with
            | zero => intro σ l2 l3 l4 l5 H locs ls hF hP hD hS hl; exact (zlp_0 hF).elim
            | succ f29 ih29 =>
              intro σ l2 l3 l4 l5 H locs ls hF hP hD hS hl
              have hF : LBX1_give_29 n o q1 (zlp (LX1_give_12 n o q1) f12) (zlp (LX1_give_20 n o q1 (zlp (LX1_give_12 n o q1) f12)) f20) (zlp (LX1_give_29 n o q1 (zlp (LX1_give_12 n o q1) f12) (zlp (LX1_give_20 n o q1 (zlp (LX1_give_12 n o q1) f12)) f20)) f29) σ l2 l3 l4 l5 = some (r0, σ') := hF
              unfold LBX1_give_29 at hF
              refine lv_iload hx hb dX1_give_29 (lv_at hl 5 rfl) ?_
              refine lv_iload_n hx hb dX1_give_31 rfl (lv_at hl 2 rfl) ?_
              refine lv_icmp_gt (tgt := 51) hx hb dX1_give_32 (by decide) (fun b1 => ?_) (fun b1 => ?_)
              · have hF := zif_t b1 hF
                refine lv_iinc (v := (l4 + (1 : Int32))) (lv' := [(4, .int (l4 + (1 : Int32))), (0, .ref (ad o)), (1, .ref (ad q1)), (2, .int l2), (3, .int l3), (5, .int l5)]) hx hb dX1_give_51 hl (k := 4) rfl rfl (by decide) rfl (fun ls hl => ?_)
                refine lv_goto (tgt := 20) hx hb dX1_give_54 (by decide) ?_
                exact ih20 σ l2 l3 (l4 + (1 : Int32)) _ _ _ hF hP hD hS (lv_sub hl [1, 2, 3, 4, 0] rfl)
              · have hF := zif_f b1 hF
                refine lv_aload_n hx hb dX1_give_35 rfl (lv_at hl 0 rfl) ?_
                refine lv_iload_n hx hb dX1_give_36 rfl (lv_at hl 3 rfl) ?_
                refine lv_iload hx hb dX1_give_37 (lv_at hl 4 rfl) ?_
                refine lv_iload hx hb dX1_give_39 (lv_at hl 5 rfl) ?_
                refine lv_aload_n hx hb dX1_give_41 rfl (lv_at hl 1 rfl) ?_
                obtain ⟨r3, σ2, hC4, hF⟩ := zbd_inv hF
                refine z_callv (va_runV (As := [.int l3, .int l4, .int l5, .ref (ad q1)]) (rest := []) ⟨hx, hb, hml, hown, hts⟩ (CX1_consider l D cI cS cP ad A n σ σ2 r3 o q1 l3 l4 l5 ho hq1 hC4) (cwV 4 hts gX1_give_X1_consider rfl rfl rfl (by decide +kernel) ⟨Nat.le_of_ble_eq_true rfl, Nat.le_of_ble_eq_true rfl⟩) (z_preV hN hK hP hD (zk_lt ho (by decide)) (zx_1 ho) rfl) rfl rfl hl.1 rfl (lv_room (Nat.le_of_ble_eq_true rfl)) dX1_give_42 ⟨Nat.zero_le _, Nat.zero_le _⟩) hS (fun H locs hP hD hS => ?_)
                refine lv_iinc (v := (l5 + (1 : Int32))) (lv' := [(5, .int (l5 + (1 : Int32))), (0, .ref (ad o)), (1, .ref (ad q1)), (2, .int l2), (3, .int l3), (4, .int l4)]) hx hb dX1_give_45 hl (k := 5) rfl rfl (by decide) rfl (fun ls hl => ?_)
                refine lv_goto (tgt := 29) hx hb dX1_give_48 (by decide) ?_
                exact ih29 σ2 l2 l3 l4 (l5 + (1 : Int32)) _ _ _ hF hP hD hS (lv_sub hl [1, 2, 3, 4, 5, 0] rfl)
          intro σ l2 l3 l4 H locs ls hF hP hD hS hl
          have hF : LBX1_give_20 n o q1 (zlp (LX1_give_12 n o q1) f12) (zlp (LX1_give_20 n o q1 (zlp (LX1_give_12 n o q1) f12)) f20) σ l2 l3 l4 = some (r0, σ') := hF
          unfold LBX1_give_20 at hF
          refine lv_iload hx hb dX1_give_20 (lv_at hl 4 rfl) ?_
          refine lv_iload_n hx hb dX1_give_22 rfl (lv_at hl 2 rfl) ?_
          refine lv_icmp_gt (tgt := 57) hx hb dX1_give_23 (by decide) (fun b5 => ?_) (fun b5 => ?_)
          · have hF := zif_t b5 hF
            refine lv_iinc (v := (l3 + (1 : Int32))) (lv' := [(3, .int (l3 + (1 : Int32))), (0, .ref (ad o)), (1, .ref (ad q1)), (2, .int l2), (4, .int l4)]) hx hb dX1_give_57 hl (k := 3) rfl rfl (by decide) rfl (fun ls hl => ?_)
            refine lv_goto (tgt := 12) hx hb dX1_give_60 (by decide) ?_
            exact ih12 σ l2 (l3 + (1 : Int32)) _ _ _ hF hP hD hS (lv_sub hl [1, 2, 3, 0] rfl)
          · have hF := zif_f b5 hF
            refine lv_iconst (v := (0 : Int32)) hx hb dX1_give_26 (by decide) ?_
            refine lv_istore (lv' := [(5, .int (0 : Int32)), (0, .ref (ad o)), (1, .ref (ad q1)), (2, .int l2), (3, .int l3), (4, .int l4)]) hx hb dX1_give_27 hl (by decide) rfl (fun ls hl => ?_)
            exact hB29 n σ l2 l3 l4 (0 : Int32) _ _ _ hF hP hD hS (lv_sub hl [1, 2, 3, 4, 5, 0] rfl)
      intro σ l2 l3 H locs ls hF hP hD hS hl
      have hF : LBX1_give_12 n o q1  (zlp (LX1_give_12 n o q1) f12) σ l2 l3 = some (r0, σ') := hF
      unfold LBX1_give_12 at hF
      refine lv_iload_n hx hb dX1_give_12 rfl (lv_at hl 3 rfl) ?_
      refine lv_iload_n hx hb dX1_give_13 rfl (lv_at hl 2 rfl) ?_
      refine lv_icmp_gt (tgt := 63) hx hb dX1_give_14 (by decide) (fun b6 => ?_) (fun b6 => ?_)
      · have hF := zif_t b6 hF
        exact z_vret hx hb hr hlocks hN hK hP hD hS hF dX1_give_63
      · have hF := zif_f b6 hF
        refine lv_iconst (v := (0 : Int32)) hx hb dX1_give_17 (by decide) ?_
        refine lv_istore (lv' := [(4, .int (0 : Int32)), (0, .ref (ad o)), (1, .ref (ad q1)), (2, .int l2), (3, .int l3)]) hx hb dX1_give_18 hl (by decide) rfl (fun ls hl => ?_)
        exact hB20 n σ l2 l3 (0 : Int32) _ _ _ hF hP hD hS (lv_sub hl [1, 2, 3, 4, 0] rfl)
  unfold FX1_give at hF
  refine lv_aload_n hx hb dX1_give_0 rfl (lv_at hl 1 rfl) ?_
  refine z_get (ci := 4) (C := RX4) (T := TX4) (N := 3) hx hb hts iX1_give_X4 hown hK hP (zk_lt hq1 (by decide)) (zx_4 hq1) rfl 2 (by decide) kX1_give_f19 rfl (v := .int (σ q1 2)) rfl dX1_give_1 ?_
  refine lv_istore_n (lv' := [(2, .int (σ q1 2)), (0, .ref (ad o)), (1, .ref (ad q1))]) hx hb dX1_give_4 rfl hl (by decide) rfl (fun ls hl => ?_)
  refine lv_aload_n hx hb dX1_give_5 rfl (lv_at hl 1 rfl) ?_
  refine lv_iconst (v := (-1 : Int32)) hx hb dX1_give_6 (by decide) ?_
  obtain ⟨σ7, eσ7, hF⟩ := zlet_inv hF
  refine z_put (ci := 1) (C := RX1) (T := TX1) (N := 2) hx hb hts iX1_give_X1 tyX1 tyX1_ok nmX1 hown hK hP hD hS (zk_lt ho (by decide)) (zx_1 ho) rfl 1 (by decide) kX1_give_f15 rfl rfl rfl rfl (Nat.le_of_ble_eq_true rfl) (zx_1 ho) dX1_give_7 (fun H locs hP hD hS => ?_)
  have hP : va_P D vwCl (zW (zx cI cS cP ad) 41 ad σ7) H := by rw [eσ7]; exact hP
  have hD : va_D A (zW (zx cI cS cP ad) 41 ad σ7) := by rw [eσ7]; exact hD
  refine lv_iconst (v := (0 : Int32)) hx hb dX1_give_10 (by decide) ?_
  refine lv_istore_n (lv' := [(3, .int (0 : Int32)), (2, .int (σ q1 2)), (0, .ref (ad o)), (1, .ref (ad q1))]) hx hb dX1_give_11 rfl hl (by decide) rfl (fun ls hl => ?_)
  exact hB12 n σ7 (σ q1 2) (0 : Int32) _ _ _ hF hP hD hS (lv_sub hl [2, 3, 1, 0] rfl)
theorem kX2_becomeLike_f9 : Cond.fieldLink RX2 9 "LeastAsked$Person" "kind" "I" ∈ wsX2_becomeLike := by decide +kernel
theorem kX2_becomeLike_f15 : Cond.fieldLink RX2 15 "LeastAsked$Person" "asked" "I" ∈ wsX2_becomeLike := by decide +kernel
theorem kX2_becomeLike_f18 : Cond.fieldLink RX2 18 "LeastAsked$Person" "knows" "I" ∈ wsX2_becomeLike := by decide +kernel
theorem kX2_becomeLike_f21 : Cond.fieldLink RX2 21 "LeastAsked$Person" "wit" "I" ∈ wsX2_becomeLike := by decide +kernel
theorem iX2_becomeLike_X2 : ∀ w ∈ u_ws RX2 TX2 4, w ∈ wsX2_becomeLike := fun _ h => List.mem_cons_of_mem _ (List.mem_append_right _ h)
set_option maxHeartbeats 4000000 in
set_option maxRecDepth 100000 in
theorem CX2_becomeLike (l : Launch) (D : va_G) (cI cS cP : ClassId) (ad : Nat → Nat) (A : Nat → Prop) (n : Nat) (σ σ' : zMem) (r0 : Int32) (o : Nat) (q1 : Nat) (ho : zk o = 2) (hq1 : zk q1 = 2) (hF : FX2_becomeLike n o q1 σ = some (r0, σ')) : Met l yX2_becomeLike wsX2_becomeLike ({ frames := 0, cells := 0, slots := 0, locals := 0 } : Room) (va_Pc [.ref (ad o), .ref (ad q1)] (zB (zx cI cS cP ad) 41 ad D (zty cI cS cP) A σ)) (va_Qv (fun u => u = σ') (zB (zx cI cS cP ad) 41 ad D (zty cI cS cP) A) A) 0 0 A := by
  refine Met.ofW (cc := cX2_becomeLike) (maxL := 2) (ret := none) (by decide) rfl ?_
  intro p e s m args below meth c s₁ B hml hv
  obtain ⟨rfl, hP, hK, hD, hN⟩ := hv
  have hx := B.exec
  have hb := B.bytes
  have hr := B.returns
  have hts := atoms_spec (ws := wsX2_becomeLike) B.pre
  have hown : s.vm.findClass RX2 = some m.cls := findClass_of_methodNamed B.named
  have hlocks := B.notSynchronized
  have hS : va_S A s.heap s.heap [] := va_S.rf
  have hl := lv_entry ([.ref (ad o), .ref (ad q1)]) (n := 2) (Nat.le_of_ble_eq_true rfl)
  rw [lg_entry_eq]
  generalize (lg_sl ([.ref (ad o), .ref (ad q1)]) ++ List.replicate (2 - (lg_sl ([.ref (ad o), .ref (ad q1)])).length) Slot.unset).toArray = ls at hl ⊢
  have hl : lv_has ls 2 [(0, .ref (ad o)), (1, .ref (ad q1))] := hl
  clear B
  unfold FX2_becomeLike at hF
  refine lv_aload_n hx hb dX2_becomeLike_0 rfl (lv_at hl 0 rfl) ?_
  refine lv_aload_n hx hb dX2_becomeLike_1 rfl (lv_at hl 1 rfl) ?_
  refine z_get (ci := 2) (C := RX2) (T := TX2) (N := 4) hx hb hts iX2_becomeLike_X2 hown hK hP (zk_lt hq1 (by decide)) (zx_2 hq1) rfl 0 (by decide) kX2_becomeLike_f9 rfl (v := .int (σ q1 0)) rfl dX2_becomeLike_2 ?_
  obtain ⟨σ1, eσ1, hF⟩ := zlet_inv hF
  refine z_put (ci := 2) (C := RX2) (T := TX2) (N := 4) hx hb hts iX2_becomeLike_X2 tyX2 tyX2_ok nmX2 hown hK hP hD hS (zk_lt ho (by decide)) (zx_2 ho) rfl 0 (by decide) kX2_becomeLike_f9 rfl rfl rfl rfl (Nat.le_of_ble_eq_true rfl) (zx_2 ho) dX2_becomeLike_5 (fun H locs hP hD hS => ?_)
  have hP : va_P D vwCl (zW (zx cI cS cP ad) 41 ad σ1) H := by rw [eσ1]; exact hP
  have hD : va_D A (zW (zx cI cS cP ad) 41 ad σ1) := by rw [eσ1]; exact hD
  refine lv_aload_n hx hb dX2_becomeLike_8 rfl (lv_at hl 0 rfl) ?_
  refine lv_aload_n hx hb dX2_becomeLike_9 rfl (lv_at hl 1 rfl) ?_
  refine z_get (ci := 2) (C := RX2) (T := TX2) (N := 4) hx hb hts iX2_becomeLike_X2 hown hK hP (zk_lt hq1 (by decide)) (zx_2 hq1) rfl 1 (by decide) kX2_becomeLike_f15 rfl (v := .int (σ1 q1 1)) rfl dX2_becomeLike_10 ?_
  obtain ⟨σ2, eσ2, hF⟩ := zlet_inv hF
  refine z_put (ci := 2) (C := RX2) (T := TX2) (N := 4) hx hb hts iX2_becomeLike_X2 tyX2 tyX2_ok nmX2 hown hK hP hD hS (zk_lt ho (by decide)) (zx_2 ho) rfl 1 (by decide) kX2_becomeLike_f15 rfl rfl rfl rfl (Nat.le_of_ble_eq_true rfl) (zx_2 ho) dX2_becomeLike_13 (fun H locs hP hD hS => ?_)
  have hP : va_P D vwCl (zW (zx cI cS cP ad) 41 ad σ2) H := by rw [eσ2]; exact hP
  have hD : va_D A (zW (zx cI cS cP ad) 41 ad σ2) := by rw [eσ2]; exact hD
  refine lv_aload_n hx hb dX2_becomeLike_16 rfl (lv_at hl 0 rfl) ?_
  refine lv_aload_n hx hb dX2_becomeLike_17 rfl (lv_at hl 1 rfl) ?_
  refine z_get (ci := 2) (C := RX2) (T := TX2) (N := 4) hx hb hts iX2_becomeLike_X2 hown hK hP (zk_lt hq1 (by decide)) (zx_2 hq1) rfl 2 (by decide) kX2_becomeLike_f18 rfl (v := .int (σ2 q1 2)) rfl dX2_becomeLike_18 ?_
  obtain ⟨σ3, eσ3, hF⟩ := zlet_inv hF
  refine z_put (ci := 2) (C := RX2) (T := TX2) (N := 4) hx hb hts iX2_becomeLike_X2 tyX2 tyX2_ok nmX2 hown hK hP hD hS (zk_lt ho (by decide)) (zx_2 ho) rfl 2 (by decide) kX2_becomeLike_f18 rfl rfl rfl rfl (Nat.le_of_ble_eq_true rfl) (zx_2 ho) dX2_becomeLike_21 (fun H locs hP hD hS => ?_)
  have hP : va_P D vwCl (zW (zx cI cS cP ad) 41 ad σ3) H := by rw [eσ3]; exact hP
  have hD : va_D A (zW (zx cI cS cP ad) 41 ad σ3) := by rw [eσ3]; exact hD
  refine lv_aload_n hx hb dX2_becomeLike_24 rfl (lv_at hl 0 rfl) ?_
  refine lv_aload_n hx hb dX2_becomeLike_25 rfl (lv_at hl 1 rfl) ?_
  refine z_get (ci := 2) (C := RX2) (T := TX2) (N := 4) hx hb hts iX2_becomeLike_X2 hown hK hP (zk_lt hq1 (by decide)) (zx_2 hq1) rfl 3 (by decide) kX2_becomeLike_f21 rfl (v := .int (σ3 q1 3)) rfl dX2_becomeLike_26 ?_
  obtain ⟨σ4, eσ4, hF⟩ := zlet_inv hF
  refine z_put (ci := 2) (C := RX2) (T := TX2) (N := 4) hx hb hts iX2_becomeLike_X2 tyX2 tyX2_ok nmX2 hown hK hP hD hS (zk_lt ho (by decide)) (zx_2 ho) rfl 3 (by decide) kX2_becomeLike_f21 rfl rfl rfl rfl (Nat.le_of_ble_eq_true rfl) (zx_2 ho) dX2_becomeLike_29 (fun H locs hP hD hS => ?_)
  have hP : va_P D vwCl (zW (zx cI cS cP ad) 41 ad σ4) H := by rw [eσ4]; exact hP
  have hD : va_D A (zW (zx cI cS cP ad) 41 ad σ4) := by rw [eσ4]; exact hD
  exact z_vret hx hb hr hlocks hN hK hP hD hS hF dX2_becomeLike_32
theorem kX4_first_f21 : Cond.fieldLink RX4 21 "LeastAsked$Province" "count" "I" ∈ wsX4_first := by decide +kernel
theorem kX4_first_f17 : Cond.fieldLink RX4 17 "LeastAsked$Province" "people" "[LLeastAsked$Person;" ∈ wsX4_first := by decide +kernel
theorem kX4_first_f57 : Cond.fieldLink RX4 57 "LeastAsked$Person" "asked" "I" ∈ wsX4_first := by decide +kernel
theorem iX4_first_X4 : ∀ w ∈ u_ws RX4 TX4 3, w ∈ wsX4_first := fun _ h => List.mem_cons_of_mem _ (List.mem_append_left _ (List.mem_append_right _ h))
theorem iX4_first_X2 : ∀ w ∈ u_ws RX2 TX2 4, w ∈ wsX4_first := fun _ h => List.mem_cons_of_mem _ (List.mem_append_right _ h)
set_option maxHeartbeats 4000000 in
set_option maxRecDepth 100000 in
theorem CX4_first (l : Launch) (D : va_G) (cI cS cP : ClassId) (ad : Nat → Nat) (A : Nat → Prop) (n : Nat) (σ σ' : zMem) (r0 : Int32) (o : Nat) (ho : zk o = 4) (hF : FX4_first n o σ = some (r0, σ')) : Met l yX4_first wsX4_first ({ frames := 0, cells := 0, slots := 0, locals := 0 } : Room) (va_Pc [.ref (ad o)] (zB (zx cI cS cP ad) 41 ad D (zty cI cS cP) A σ)) (va_Qi (fun r u => r = r0 ∧ u = σ') (zB (zx cI cS cP ad) 41 ad D (zty cI cS cP) A) A) 0 0 A := by
  refine Met.ofW (cc := cX4_first) (maxL := 3) (ret := (some .int)) (by decide) rfl ?_
  intro p e s m args below meth c s₁ B hml hv
  obtain ⟨rfl, hP, hK, hD, hN⟩ := hv
  have hx := B.exec
  have hb := B.bytes
  have hr := B.returns
  have hts := atoms_spec (ws := wsX4_first) B.pre
  have hown : s.vm.findClass RX4 = some m.cls := findClass_of_methodNamed B.named
  have hlocks := B.notSynchronized
  have hS : va_S A s.heap s.heap [] := va_S.rf
  have hl := lv_entry ([.ref (ad o)]) (n := 3) (Nat.le_of_ble_eq_true rfl)
  rw [lg_entry_eq]
  generalize (lg_sl ([.ref (ad o)]) ++ List.replicate (3 - (lg_sl ([.ref (ad o)])).length) Slot.unset).toArray = ls at hl ⊢
  have hl : lv_has ls 3 [(0, .ref (ad o))] := hl
  clear B
  have hB4 : ∀ (f4 : Nat) (σ : zMem) (l1 : Int32) (l2 : Int32), ∀ (H : Heap) (locs : List Loc) (ls : Array Slot), zlp (LX4_first_4 n o) f4 (σ, l1, l2) = some (r0, σ') → va_P D vwCl (zW (zx cI cS cP ad) 41 ad σ) H → va_D A (zW (zx cI cS cP ad) 41 ad σ) → va_S A s.heap H locs → lv_has ls 3 [(0, .ref (ad o)), (1, .int l1), (2, .int l2)] → W p l e (headSpec wsX4_first ({ frames := 0, cells := 0, slots := 0, locals := 0 } : Room)).room s m ([.ref (ad o)] : List Value).toArray below meth c H locs 0 0 (MQ below (va_Qi (fun r u => r = r0 ∧ u = σ') (zB (zx cI cS cP ad) 41 ad D (zty cI cS cP) A) A) ([.ref (ad o)] : List Value).toArray s 0 0 A) (F0 m 4 ls []) := by
    intro f4
    induction f4 with
    | zero => intro σ l1 l2 H locs ls hF hP hD hS hl; exact (zlp_0 hF).elim
    | succ f4 ih4 =>
      intro σ l1 l2 H locs ls hF hP hD hS hl
      have hF : LBX4_first_4 n o  (zlp (LX4_first_4 n o) f4) σ l1 l2 = some (r0, σ') := hF
      unfold LBX4_first_4 at hF
      refine lv_iload_n hx hb dX4_first_4 rfl (lv_at hl 2 rfl) ?_
      refine lv_aload_n hx hb dX4_first_5 rfl (lv_at hl 0 rfl) ?_
      refine z_get (ci := 4) (C := RX4) (T := TX4) (N := 3) hx hb hts iX4_first_X4 hown hK hP (zk_lt ho (by decide)) (zx_4 ho) rfl 2 (by decide) kX4_first_f21 rfl (v := .int (σ o 2)) rfl dX4_first_6 ?_
      refine lv_icmp_ge (tgt := 41) hx hb dX4_first_9 (by decide) (fun b1 => ?_) (fun b1 => ?_)
      · have hF := zif_t b1 hF
        refine lv_iload_n hx hb dX4_first_41 rfl (lv_at hl 1 rfl) ?_
        exact z_iret hx hb hr hlocks hN hK hP hD hS hF dX4_first_42
      · have hF := zif_f b1 hF
        refine lv_aload_n hx hb dX4_first_12 rfl (lv_at hl 0 rfl) ?_
        refine z_get (ci := 4) (C := RX4) (T := TX4) (N := 3) hx hb hts iX4_first_X4 hown hK hP (zk_lt ho (by decide)) (zx_4 ho) rfl 1 (by decide) kX4_first_f17 rfl (v := .ref (ad (o + 2))) rfl dX4_first_13 ?_
        refine lv_iload_n hx hb dX4_first_16 rfl (lv_at hl 2 rfl) ?_
        obtain ⟨g2, hF⟩ := zgd_inv hF
        refine z_aldq hx hb hK hP 2 (zk_lt (zk_4p ho) (by decide)) (zx_22 (zk_4p ho)) rfl g2 dX4_first_17 ?_
        refine z_get (ci := 2) (C := RX2) (T := TX2) (N := 4) hx hb hts iX4_first_X2 hown hK hP (zk_lt (zk_22p (zk_4p ho) g2) (by decide)) (zx_2 (zk_22p (zk_4p ho) g2)) rfl 1 (by decide) kX4_first_f57 rfl (v := .int (σ ((o + 3) + (l2 : Int32).toNatClampNeg) 1)) rfl dX4_first_18 ?_
        refine lv_aload_n hx hb dX4_first_21 rfl (lv_at hl 0 rfl) ?_
        refine z_get (ci := 4) (C := RX4) (T := TX4) (N := 3) hx hb hts iX4_first_X4 hown hK hP (zk_lt ho (by decide)) (zx_4 ho) rfl 1 (by decide) kX4_first_f17 rfl (v := .ref (ad (o + 2))) rfl dX4_first_22 ?_
        refine lv_iload_n hx hb dX4_first_25 rfl (lv_at hl 1 rfl) ?_
        obtain ⟨g3, hF⟩ := zgd_inv hF
        refine z_aldq hx hb hK hP 2 (zk_lt (zk_4p ho) (by decide)) (zx_22 (zk_4p ho)) rfl g3 dX4_first_26 ?_
        refine z_get (ci := 2) (C := RX2) (T := TX2) (N := 4) hx hb hts iX4_first_X2 hown hK hP (zk_lt (zk_22p (zk_4p ho) g3) (by decide)) (zx_2 (zk_22p (zk_4p ho) g3)) rfl 1 (by decide) kX4_first_f57 rfl (v := .int (σ ((o + 3) + (l1 : Int32).toNatClampNeg) 1)) rfl dX4_first_27 ?_
        refine lv_icmp_ge (tgt := 35) hx hb dX4_first_30 (by decide) (fun b4 => ?_) (fun b4 => ?_)
        · have hF := zif_t b4 hF
          refine lv_iinc (v := (l2 + (1 : Int32))) (lv' := [(2, .int (l2 + (1 : Int32))), (0, .ref (ad o)), (1, .int l1)]) hx hb dX4_first_35 hl (k := 2) rfl rfl (by decide) rfl (fun ls hl => ?_)
          refine lv_goto (tgt := 4) hx hb dX4_first_38 (by decide) ?_
          exact ih4 σ l1 (l2 + (1 : Int32)) _ _ _ hF hP hD hS (lv_sub hl [1, 2, 0] rfl)
        · have hF := zif_f b4 hF
          refine lv_iload_n hx hb dX4_first_33 rfl (lv_at hl 2 rfl) ?_
          refine lv_istore_n (lv' := [(1, .int l2), (0, .ref (ad o)), (2, .int l2)]) hx hb dX4_first_34 rfl hl (by decide) rfl (fun ls hl => ?_)
          refine lv_iinc (v := (l2 + (1 : Int32))) (lv' := [(2, .int (l2 + (1 : Int32))), (1, .int l2), (0, .ref (ad o))]) hx hb dX4_first_35 hl (k := 2) rfl rfl (by decide) rfl (fun ls hl => ?_)
          refine lv_goto (tgt := 4) hx hb dX4_first_38 (by decide) ?_
          exact ih4 σ l2 (l2 + (1 : Int32)) _ _ _ hF hP hD hS (lv_sub hl [2, 1, 0] rfl)
  unfold FX4_first at hF
  refine lv_iconst (v := (0 : Int32)) hx hb dX4_first_0 (by decide) ?_
  refine lv_istore_n (lv' := [(1, .int (0 : Int32)), (0, .ref (ad o))]) hx hb dX4_first_1 rfl hl (by decide) rfl (fun ls hl => ?_)
  refine lv_iconst (v := (1 : Int32)) hx hb dX4_first_2 (by decide) ?_
  refine lv_istore_n (lv' := [(2, .int (1 : Int32)), (1, .int (0 : Int32)), (0, .ref (ad o))]) hx hb dX4_first_3 rfl hl (by decide) rfl (fun ls hl => ?_)
  exact hB4 n σ (0 : Int32) (1 : Int32) _ _ _ hF hP hD hS (lv_sub hl [2, 1, 0] rfl)
theorem kJ6_bitCount_0f7a4_C265 : Cond.constant RJ6 265 (1431655765) ∈ wsJ6_bitCount_0f7a4 := by decide +kernel
theorem kJ6_bitCount_0f7a4_C266 : Cond.constant RJ6 266 (858993459) ∈ wsJ6_bitCount_0f7a4 := by decide +kernel
theorem kJ6_bitCount_0f7a4_C267 : Cond.constant RJ6 267 (252645135) ∈ wsJ6_bitCount_0f7a4 := by decide +kernel
set_option maxHeartbeats 4000000 in
set_option maxRecDepth 100000 in
theorem CJ6_bitCount_0f7a4 (l : Launch) (D : va_G) (cI cS cP : ClassId) (ad : Nat → Nat) (A : Nat → Prop) (n : Nat) (σ σ' : zMem) (r0 : Int32) (p1 : Int32) (hF : FJ6_bitCount_0f7a4 n σ p1 = some (r0, σ')) : Met l yJ6_bitCount_0f7a4 wsJ6_bitCount_0f7a4 ({ frames := 0, cells := 0, slots := 0, locals := 0 } : Room) (va_Pc [.int p1] (zB (zx cI cS cP ad) 41 ad D (zty cI cS cP) A σ)) (va_Qi (fun r u => r = r0 ∧ u = σ') (zB (zx cI cS cP ad) 41 ad D (zty cI cS cP) A) A) 0 0 A := by
  refine Met.ofW (cc := cJ6_bitCount_0f7a4) (maxL := 1) (ret := (some .int)) (by decide) rfl ?_
  intro p e s m args below meth c s₁ B hml hv
  obtain ⟨rfl, hP, hK, hD, hN⟩ := hv
  have hx := B.exec
  have hb := B.bytes
  have hr := B.returns
  have hts := atoms_spec (ws := wsJ6_bitCount_0f7a4) B.pre
  have hown : s.vm.findClass RJ6 = some m.cls := findClass_of_methodNamed B.named
  have hlocks := B.notSynchronized
  have hS : va_S A s.heap s.heap [] := va_S.rf
  have hl := lv_entry ([.int p1]) (n := 1) (Nat.le_of_ble_eq_true rfl)
  rw [lg_entry_eq]
  generalize (lg_sl ([.int p1]) ++ List.replicate (1 - (lg_sl ([.int p1])).length) Slot.unset).toArray = ls at hl ⊢
  have hl : lv_has ls 1 [(0, .int p1)] := hl
  clear B
  unfold FJ6_bitCount_0f7a4 at hF
  refine lv_iload_n hx hb dJ6_bitCount_0f7a4_0 rfl (lv_at hl 0 rfl) ?_
  refine lv_iload_n hx hb dJ6_bitCount_0f7a4_1 rfl (lv_at hl 0 rfl) ?_
  refine lv_iconst (v := (1 : Int32)) hx hb dJ6_bitCount_0f7a4_2 (by decide) ?_
  refine lv_iushr (v := ((p1 : Int32).toUInt32 >>> (((1 : Int32) : Int32).toUInt32 &&& Int32.toUInt32 31)).toInt32) hx hb dJ6_bitCount_0f7a4_3 rfl ?_
  refine lv_ldcw (v := (1431655765 : Int32)) hx hb hown (hts _ kJ6_bitCount_0f7a4_C265) dJ6_bitCount_0f7a4_4 ?_
  refine lv_iand hx hb dJ6_bitCount_0f7a4_7 ?_
  refine lv_isub hx hb dJ6_bitCount_0f7a4_8 ?_
  refine lv_istore_n (lv' := [(0, .int (p1 - (((p1 : Int32).toUInt32 >>> (((1 : Int32) : Int32).toUInt32 &&& Int32.toUInt32 31)).toInt32 &&& (1431655765 : Int32))))]) hx hb dJ6_bitCount_0f7a4_9 rfl hl (by decide) rfl (fun ls hl => ?_)
  refine lv_iload_n hx hb dJ6_bitCount_0f7a4_10 rfl (lv_at hl 0 rfl) ?_
  refine lv_ldcw (v := (858993459 : Int32)) hx hb hown (hts _ kJ6_bitCount_0f7a4_C266) dJ6_bitCount_0f7a4_11 ?_
  refine lv_iand hx hb dJ6_bitCount_0f7a4_14 ?_
  refine lv_iload_n hx hb dJ6_bitCount_0f7a4_15 rfl (lv_at hl 0 rfl) ?_
  refine lv_iconst (v := (2 : Int32)) hx hb dJ6_bitCount_0f7a4_16 (by decide) ?_
  refine lv_iushr (v := (((p1 - (((p1 : Int32).toUInt32 >>> (((1 : Int32) : Int32).toUInt32 &&& Int32.toUInt32 31)).toInt32 &&& (1431655765 : Int32))) : Int32).toUInt32 >>> (((2 : Int32) : Int32).toUInt32 &&& Int32.toUInt32 31)).toInt32) hx hb dJ6_bitCount_0f7a4_17 rfl ?_
  refine lv_ldcw (v := (858993459 : Int32)) hx hb hown (hts _ kJ6_bitCount_0f7a4_C266) dJ6_bitCount_0f7a4_18 ?_
  refine lv_iand hx hb dJ6_bitCount_0f7a4_21 ?_
  refine lv_iadd hx hb dJ6_bitCount_0f7a4_22 ?_
  refine lv_istore_n (lv' := [(0, .int (((p1 - (((p1 : Int32).toUInt32 >>> (((1 : Int32) : Int32).toUInt32 &&& Int32.toUInt32 31)).toInt32 &&& (1431655765 : Int32))) &&& (858993459 : Int32)) + ((((p1 - (((p1 : Int32).toUInt32 >>> (((1 : Int32) : Int32).toUInt32 &&& Int32.toUInt32 31)).toInt32 &&& (1431655765 : Int32))) : Int32).toUInt32 >>> (((2 : Int32) : Int32).toUInt32 &&& Int32.toUInt32 31)).toInt32 &&& (858993459 : Int32))))]) hx hb dJ6_bitCount_0f7a4_23 rfl hl (by decide) rfl (fun ls hl => ?_)
  refine lv_iload_n hx hb dJ6_bitCount_0f7a4_24 rfl (lv_at hl 0 rfl) ?_
  refine lv_iload_n hx hb dJ6_bitCount_0f7a4_25 rfl (lv_at hl 0 rfl) ?_
  refine lv_iconst (v := (4 : Int32)) hx hb dJ6_bitCount_0f7a4_26 (by decide) ?_
  refine lv_iushr (v := (((((p1 - (((p1 : Int32).toUInt32 >>> (((1 : Int32) : Int32).toUInt32 &&& Int32.toUInt32 31)).toInt32 &&& (1431655765 : Int32))) &&& (858993459 : Int32)) + ((((p1 - (((p1 : Int32).toUInt32 >>> (((1 : Int32) : Int32).toUInt32 &&& Int32.toUInt32 31)).toInt32 &&& (1431655765 : Int32))) : Int32).toUInt32 >>> (((2 : Int32) : Int32).toUInt32 &&& Int32.toUInt32 31)).toInt32 &&& (858993459 : Int32))) : Int32).toUInt32 >>> (((4 : Int32) : Int32).toUInt32 &&& Int32.toUInt32 31)).toInt32) hx hb dJ6_bitCount_0f7a4_27 rfl ?_
  refine lv_iadd hx hb dJ6_bitCount_0f7a4_28 ?_
  refine lv_ldcw (v := (252645135 : Int32)) hx hb hown (hts _ kJ6_bitCount_0f7a4_C267) dJ6_bitCount_0f7a4_29 ?_
  refine lv_iand hx hb dJ6_bitCount_0f7a4_32 ?_
  refine lv_istore_n (lv' := [(0, .int (((((p1 - (((p1 : Int32).toUInt32 >>> (((1 : Int32) : Int32).toUInt32 &&& Int32.toUInt32 31)).toInt32 &&& (1431655765 : Int32))) &&& (858993459 : Int32)) + ((((p1 - (((p1 : Int32).toUInt32 >>> (((1 : Int32) : Int32).toUInt32 &&& Int32.toUInt32 31)).toInt32 &&& (1431655765 : Int32))) : Int32).toUInt32 >>> (((2 : Int32) : Int32).toUInt32 &&& Int32.toUInt32 31)).toInt32 &&& (858993459 : Int32))) + (((((p1 - (((p1 : Int32).toUInt32 >>> (((1 : Int32) : Int32).toUInt32 &&& Int32.toUInt32 31)).toInt32 &&& (1431655765 : Int32))) &&& (858993459 : Int32)) + ((((p1 - (((p1 : Int32).toUInt32 >>> (((1 : Int32) : Int32).toUInt32 &&& Int32.toUInt32 31)).toInt32 &&& (1431655765 : Int32))) : Int32).toUInt32 >>> (((2 : Int32) : Int32).toUInt32 &&& Int32.toUInt32 31)).toInt32 &&& (858993459 : Int32))) : Int32).toUInt32 >>> (((4 : Int32) : Int32).toUInt32 &&& Int32.toUInt32 31)).toInt32) &&& (252645135 : Int32)))]) hx hb dJ6_bitCount_0f7a4_33 rfl hl (by decide) rfl (fun ls hl => ?_)
  refine lv_iload_n hx hb dJ6_bitCount_0f7a4_34 rfl (lv_at hl 0 rfl) ?_
  refine lv_iload_n hx hb dJ6_bitCount_0f7a4_35 rfl (lv_at hl 0 rfl) ?_
  refine lv_bipush (v := (8 : Int32)) hx hb dJ6_bitCount_0f7a4_36 (by decide) ?_
  refine lv_iushr (v := (((((((p1 - (((p1 : Int32).toUInt32 >>> (((1 : Int32) : Int32).toUInt32 &&& Int32.toUInt32 31)).toInt32 &&& (1431655765 : Int32))) &&& (858993459 : Int32)) + ((((p1 - (((p1 : Int32).toUInt32 >>> (((1 : Int32) : Int32).toUInt32 &&& Int32.toUInt32 31)).toInt32 &&& (1431655765 : Int32))) : Int32).toUInt32 >>> (((2 : Int32) : Int32).toUInt32 &&& Int32.toUInt32 31)).toInt32 &&& (858993459 : Int32))) + (((((p1 - (((p1 : Int32).toUInt32 >>> (((1 : Int32) : Int32).toUInt32 &&& Int32.toUInt32 31)).toInt32 &&& (1431655765 : Int32))) &&& (858993459 : Int32)) + ((((p1 - (((p1 : Int32).toUInt32 >>> (((1 : Int32) : Int32).toUInt32 &&& Int32.toUInt32 31)).toInt32 &&& (1431655765 : Int32))) : Int32).toUInt32 >>> (((2 : Int32) : Int32).toUInt32 &&& Int32.toUInt32 31)).toInt32 &&& (858993459 : Int32))) : Int32).toUInt32 >>> (((4 : Int32) : Int32).toUInt32 &&& Int32.toUInt32 31)).toInt32) &&& (252645135 : Int32)) : Int32).toUInt32 >>> (((8 : Int32) : Int32).toUInt32 &&& Int32.toUInt32 31)).toInt32) hx hb dJ6_bitCount_0f7a4_38 rfl ?_
  refine lv_iadd hx hb dJ6_bitCount_0f7a4_39 ?_
  refine lv_istore_n (lv' := [(0, .int ((((((p1 - (((p1 : Int32).toUInt32 >>> (((1 : Int32) : Int32).toUInt32 &&& Int32.toUInt32 31)).toInt32 &&& (1431655765 : Int32))) &&& (858993459 : Int32)) + ((((p1 - (((p1 : Int32).toUInt32 >>> (((1 : Int32) : Int32).toUInt32 &&& Int32.toUInt32 31)).toInt32 &&& (1431655765 : Int32))) : Int32).toUInt32 >>> (((2 : Int32) : Int32).toUInt32 &&& Int32.toUInt32 31)).toInt32 &&& (858993459 : Int32))) + (((((p1 - (((p1 : Int32).toUInt32 >>> (((1 : Int32) : Int32).toUInt32 &&& Int32.toUInt32 31)).toInt32 &&& (1431655765 : Int32))) &&& (858993459 : Int32)) + ((((p1 - (((p1 : Int32).toUInt32 >>> (((1 : Int32) : Int32).toUInt32 &&& Int32.toUInt32 31)).toInt32 &&& (1431655765 : Int32))) : Int32).toUInt32 >>> (((2 : Int32) : Int32).toUInt32 &&& Int32.toUInt32 31)).toInt32 &&& (858993459 : Int32))) : Int32).toUInt32 >>> (((4 : Int32) : Int32).toUInt32 &&& Int32.toUInt32 31)).toInt32) &&& (252645135 : Int32)) + (((((((p1 - (((p1 : Int32).toUInt32 >>> (((1 : Int32) : Int32).toUInt32 &&& Int32.toUInt32 31)).toInt32 &&& (1431655765 : Int32))) &&& (858993459 : Int32)) + ((((p1 - (((p1 : Int32).toUInt32 >>> (((1 : Int32) : Int32).toUInt32 &&& Int32.toUInt32 31)).toInt32 &&& (1431655765 : Int32))) : Int32).toUInt32 >>> (((2 : Int32) : Int32).toUInt32 &&& Int32.toUInt32 31)).toInt32 &&& (858993459 : Int32))) + (((((p1 - (((p1 : Int32).toUInt32 >>> (((1 : Int32) : Int32).toUInt32 &&& Int32.toUInt32 31)).toInt32 &&& (1431655765 : Int32))) &&& (858993459 : Int32)) + ((((p1 - (((p1 : Int32).toUInt32 >>> (((1 : Int32) : Int32).toUInt32 &&& Int32.toUInt32 31)).toInt32 &&& (1431655765 : Int32))) : Int32).toUInt32 >>> (((2 : Int32) : Int32).toUInt32 &&& Int32.toUInt32 31)).toInt32 &&& (858993459 : Int32))) : Int32).toUInt32 >>> (((4 : Int32) : Int32).toUInt32 &&& Int32.toUInt32 31)).toInt32) &&& (252645135 : Int32)) : Int32).toUInt32 >>> (((8 : Int32) : Int32).toUInt32 &&& Int32.toUInt32 31)).toInt32))]) hx hb dJ6_bitCount_0f7a4_40 rfl hl (by decide) rfl (fun ls hl => ?_)
  refine lv_iload_n hx hb dJ6_bitCount_0f7a4_41 rfl (lv_at hl 0 rfl) ?_
  refine lv_iload_n hx hb dJ6_bitCount_0f7a4_42 rfl (lv_at hl 0 rfl) ?_
  refine lv_bipush (v := (16 : Int32)) hx hb dJ6_bitCount_0f7a4_43 (by decide) ?_
  refine lv_iushr (v := ((((((((p1 - (((p1 : Int32).toUInt32 >>> (((1 : Int32) : Int32).toUInt32 &&& Int32.toUInt32 31)).toInt32 &&& (1431655765 : Int32))) &&& (858993459 : Int32)) + ((((p1 - (((p1 : Int32).toUInt32 >>> (((1 : Int32) : Int32).toUInt32 &&& Int32.toUInt32 31)).toInt32 &&& (1431655765 : Int32))) : Int32).toUInt32 >>> (((2 : Int32) : Int32).toUInt32 &&& Int32.toUInt32 31)).toInt32 &&& (858993459 : Int32))) + (((((p1 - (((p1 : Int32).toUInt32 >>> (((1 : Int32) : Int32).toUInt32 &&& Int32.toUInt32 31)).toInt32 &&& (1431655765 : Int32))) &&& (858993459 : Int32)) + ((((p1 - (((p1 : Int32).toUInt32 >>> (((1 : Int32) : Int32).toUInt32 &&& Int32.toUInt32 31)).toInt32 &&& (1431655765 : Int32))) : Int32).toUInt32 >>> (((2 : Int32) : Int32).toUInt32 &&& Int32.toUInt32 31)).toInt32 &&& (858993459 : Int32))) : Int32).toUInt32 >>> (((4 : Int32) : Int32).toUInt32 &&& Int32.toUInt32 31)).toInt32) &&& (252645135 : Int32)) + (((((((p1 - (((p1 : Int32).toUInt32 >>> (((1 : Int32) : Int32).toUInt32 &&& Int32.toUInt32 31)).toInt32 &&& (1431655765 : Int32))) &&& (858993459 : Int32)) + ((((p1 - (((p1 : Int32).toUInt32 >>> (((1 : Int32) : Int32).toUInt32 &&& Int32.toUInt32 31)).toInt32 &&& (1431655765 : Int32))) : Int32).toUInt32 >>> (((2 : Int32) : Int32).toUInt32 &&& Int32.toUInt32 31)).toInt32 &&& (858993459 : Int32))) + (((((p1 - (((p1 : Int32).toUInt32 >>> (((1 : Int32) : Int32).toUInt32 &&& Int32.toUInt32 31)).toInt32 &&& (1431655765 : Int32))) &&& (858993459 : Int32)) + ((((p1 - (((p1 : Int32).toUInt32 >>> (((1 : Int32) : Int32).toUInt32 &&& Int32.toUInt32 31)).toInt32 &&& (1431655765 : Int32))) : Int32).toUInt32 >>> (((2 : Int32) : Int32).toUInt32 &&& Int32.toUInt32 31)).toInt32 &&& (858993459 : Int32))) : Int32).toUInt32 >>> (((4 : Int32) : Int32).toUInt32 &&& Int32.toUInt32 31)).toInt32) &&& (252645135 : Int32)) : Int32).toUInt32 >>> (((8 : Int32) : Int32).toUInt32 &&& Int32.toUInt32 31)).toInt32) : Int32).toUInt32 >>> (((16 : Int32) : Int32).toUInt32 &&& Int32.toUInt32 31)).toInt32) hx hb dJ6_bitCount_0f7a4_45 rfl ?_
  refine lv_iadd hx hb dJ6_bitCount_0f7a4_46 ?_
  refine lv_istore_n (lv' := [(0, .int (((((((p1 - (((p1 : Int32).toUInt32 >>> (((1 : Int32) : Int32).toUInt32 &&& Int32.toUInt32 31)).toInt32 &&& (1431655765 : Int32))) &&& (858993459 : Int32)) + ((((p1 - (((p1 : Int32).toUInt32 >>> (((1 : Int32) : Int32).toUInt32 &&& Int32.toUInt32 31)).toInt32 &&& (1431655765 : Int32))) : Int32).toUInt32 >>> (((2 : Int32) : Int32).toUInt32 &&& Int32.toUInt32 31)).toInt32 &&& (858993459 : Int32))) + (((((p1 - (((p1 : Int32).toUInt32 >>> (((1 : Int32) : Int32).toUInt32 &&& Int32.toUInt32 31)).toInt32 &&& (1431655765 : Int32))) &&& (858993459 : Int32)) + ((((p1 - (((p1 : Int32).toUInt32 >>> (((1 : Int32) : Int32).toUInt32 &&& Int32.toUInt32 31)).toInt32 &&& (1431655765 : Int32))) : Int32).toUInt32 >>> (((2 : Int32) : Int32).toUInt32 &&& Int32.toUInt32 31)).toInt32 &&& (858993459 : Int32))) : Int32).toUInt32 >>> (((4 : Int32) : Int32).toUInt32 &&& Int32.toUInt32 31)).toInt32) &&& (252645135 : Int32)) + (((((((p1 - (((p1 : Int32).toUInt32 >>> (((1 : Int32) : Int32).toUInt32 &&& Int32.toUInt32 31)).toInt32 &&& (1431655765 : Int32))) &&& (858993459 : Int32)) + ((((p1 - (((p1 : Int32).toUInt32 >>> (((1 : Int32) : Int32).toUInt32 &&& Int32.toUInt32 31)).toInt32 &&& (1431655765 : Int32))) : Int32).toUInt32 >>> (((2 : Int32) : Int32).toUInt32 &&& Int32.toUInt32 31)).toInt32 &&& (858993459 : Int32))) + (((((p1 - (((p1 : Int32).toUInt32 >>> (((1 : Int32) : Int32).toUInt32 &&& Int32.toUInt32 31)).toInt32 &&& (1431655765 : Int32))) &&& (858993459 : Int32)) + ((((p1 - (((p1 : Int32).toUInt32 >>> (((1 : Int32) : Int32).toUInt32 &&& Int32.toUInt32 31)).toInt32 &&& (1431655765 : Int32))) : Int32).toUInt32 >>> (((2 : Int32) : Int32).toUInt32 &&& Int32.toUInt32 31)).toInt32 &&& (858993459 : Int32))) : Int32).toUInt32 >>> (((4 : Int32) : Int32).toUInt32 &&& Int32.toUInt32 31)).toInt32) &&& (252645135 : Int32)) : Int32).toUInt32 >>> (((8 : Int32) : Int32).toUInt32 &&& Int32.toUInt32 31)).toInt32) + ((((((((p1 - (((p1 : Int32).toUInt32 >>> (((1 : Int32) : Int32).toUInt32 &&& Int32.toUInt32 31)).toInt32 &&& (1431655765 : Int32))) &&& (858993459 : Int32)) + ((((p1 - (((p1 : Int32).toUInt32 >>> (((1 : Int32) : Int32).toUInt32 &&& Int32.toUInt32 31)).toInt32 &&& (1431655765 : Int32))) : Int32).toUInt32 >>> (((2 : Int32) : Int32).toUInt32 &&& Int32.toUInt32 31)).toInt32 &&& (858993459 : Int32))) + (((((p1 - (((p1 : Int32).toUInt32 >>> (((1 : Int32) : Int32).toUInt32 &&& Int32.toUInt32 31)).toInt32 &&& (1431655765 : Int32))) &&& (858993459 : Int32)) + ((((p1 - (((p1 : Int32).toUInt32 >>> (((1 : Int32) : Int32).toUInt32 &&& Int32.toUInt32 31)).toInt32 &&& (1431655765 : Int32))) : Int32).toUInt32 >>> (((2 : Int32) : Int32).toUInt32 &&& Int32.toUInt32 31)).toInt32 &&& (858993459 : Int32))) : Int32).toUInt32 >>> (((4 : Int32) : Int32).toUInt32 &&& Int32.toUInt32 31)).toInt32) &&& (252645135 : Int32)) + (((((((p1 - (((p1 : Int32).toUInt32 >>> (((1 : Int32) : Int32).toUInt32 &&& Int32.toUInt32 31)).toInt32 &&& (1431655765 : Int32))) &&& (858993459 : Int32)) + ((((p1 - (((p1 : Int32).toUInt32 >>> (((1 : Int32) : Int32).toUInt32 &&& Int32.toUInt32 31)).toInt32 &&& (1431655765 : Int32))) : Int32).toUInt32 >>> (((2 : Int32) : Int32).toUInt32 &&& Int32.toUInt32 31)).toInt32 &&& (858993459 : Int32))) + (((((p1 - (((p1 : Int32).toUInt32 >>> (((1 : Int32) : Int32).toUInt32 &&& Int32.toUInt32 31)).toInt32 &&& (1431655765 : Int32))) &&& (858993459 : Int32)) + ((((p1 - (((p1 : Int32).toUInt32 >>> (((1 : Int32) : Int32).toUInt32 &&& Int32.toUInt32 31)).toInt32 &&& (1431655765 : Int32))) : Int32).toUInt32 >>> (((2 : Int32) : Int32).toUInt32 &&& Int32.toUInt32 31)).toInt32 &&& (858993459 : Int32))) : Int32).toUInt32 >>> (((4 : Int32) : Int32).toUInt32 &&& Int32.toUInt32 31)).toInt32) &&& (252645135 : Int32)) : Int32).toUInt32 >>> (((8 : Int32) : Int32).toUInt32 &&& Int32.toUInt32 31)).toInt32) : Int32).toUInt32 >>> (((16 : Int32) : Int32).toUInt32 &&& Int32.toUInt32 31)).toInt32))]) hx hb dJ6_bitCount_0f7a4_47 rfl hl (by decide) rfl (fun ls hl => ?_)
  refine lv_iload_n hx hb dJ6_bitCount_0f7a4_48 rfl (lv_at hl 0 rfl) ?_
  refine lv_bipush (v := (63 : Int32)) hx hb dJ6_bitCount_0f7a4_49 (by decide) ?_
  refine lv_iand hx hb dJ6_bitCount_0f7a4_51 ?_
  exact z_iret hx hb hr hlocks hN hK hP hD hS hF dJ6_bitCount_0f7a4_52
