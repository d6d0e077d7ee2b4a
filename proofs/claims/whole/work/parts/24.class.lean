/-! ===== contracts: X9_teach, X9_sharpen, X9_brings, X9_question, X9_feint, X9_rowFault, X9_year, X9_register, X9_turn, X9_steer, X9_even, X9_plan, X9_best, X9_reading ===== -/
theorem kX9_teach_f20 : Cond.fieldLink RX9 20 "LeastAsked" "now" "LLeastAsked$Province;" ∈ wsX9_teach := by decide +kernel
theorem kX9_teach_f108 : Cond.fieldLink RX9 108 "LeastAsked$Province" "people" "[LLeastAsked$Person;" ∈ wsX9_teach := by decide +kernel
theorem kX9_teach_f120 : Cond.fieldLink RX9 120 "LeastAsked$Person" "knows" "I" ∈ wsX9_teach := by decide +kernel
theorem iX9_teach_X9 : ∀ w ∈ u_ws RX9 TX9 11, w ∈ wsX9_teach := fun _ h => List.mem_cons_of_mem _ (List.mem_append_left _ (List.mem_append_left _ (List.mem_append_right _ h)))
theorem iX9_teach_X4 : ∀ w ∈ u_ws RX4 TX4 3, w ∈ wsX9_teach := fun _ h => List.mem_cons_of_mem _ (List.mem_append_left _ (List.mem_append_right _ h))
theorem iX9_teach_X2 : ∀ w ∈ u_ws RX2 TX2 4, w ∈ wsX9_teach := fun _ h => List.mem_cons_of_mem _ (List.mem_append_right _ h)
set_option maxHeartbeats 4000000 in
set_option maxRecDepth 100000 in
theorem CX9_teach (l : Launch) (D : va_G) (cI cS cP : ClassId) (ad : Nat → Nat) (A : Nat → Prop) (n : Nat) (σ σ' : zMem) (r0 : Int32) (p1 : Int32) (p2 : Int32) (hF : FX9_teach n σ p1 p2 = some (r0, σ')) : Met l yX9_teach wsX9_teach ({ frames := 2, cells := 0, slots := 0, locals := 42 } : Room) (va_Pc [.ref (ad 0), .int p1, .int p2] (zB (zx cI cS cP ad) 41 ad D (zty cI cS cP) A σ)) (va_Qi (fun r u => r = r0 ∧ u = σ') (zB (zx cI cS cP ad) 41 ad D (zty cI cS cP) A) A) 0 0 A := by
  refine Met.ofW (cc := cX9_teach) (maxL := 4) (ret := (some .int)) (by decide) rfl ?_
  intro p e s m args below meth c s₁ B hml hv
  obtain ⟨rfl, hP, hK, hD, hN⟩ := hv
  have hx := B.exec
  have hb := B.bytes
  have hr := B.returns
  have hts := atoms_spec (ws := wsX9_teach) B.pre
  have hown : s.vm.findClass RX9 = some m.cls := findClass_of_methodNamed B.named
  have hlocks := B.notSynchronized
  have hS : va_S A s.heap s.heap [] := va_S.rf
  have hl := lv_entry ([.ref (ad 0), .int p1, .int p2]) (n := 4) (Nat.le_of_ble_eq_true rfl)
  rw [lg_entry_eq]
  generalize (lg_sl ([.ref (ad 0), .int p1, .int p2]) ++ List.replicate (4 - (lg_sl ([.ref (ad 0), .int p1, .int p2])).length) Slot.unset).toArray = ls at hl ⊢
  have hl : lv_has ls 4 [(0, .ref (ad 0)), (1, .int p1), (2, .int p2)] := hl
  clear B
  unfold FX9_teach at hF
  refine lv_aload_n hx hb dX9_teach_0 rfl (lv_at hl 0 rfl) ?_
  refine z_get (ci := 8) (C := RX9) (T := TX9) (N := 11) hx hb hts iX9_teach_X9 hown hK hP (zk_lt (rfl : zk 0 = 8) (by decide)) (zx_8 (rfl : zk 0 = 8)) rfl 1 (by decide) kX9_teach_f20 rfl (v := .ref (ad 10)) rfl dX9_teach_1 ?_
  refine lv_iload_n hx hb dX9_teach_4 rfl (lv_at hl 1 rfl) ?_
  obtain ⟨r2, σ1, hC3, hF⟩ := zbd_inv hF
  refine z_calli (va_runV (As := [.int p1]) (rest := []) ⟨hx, hb, hml, hown, hts⟩ (CX4_hasPerson l D cI cS cP ad A n σ σ1 r2 10 p1 (rfl : zk 10 = 4) hC3) (cwV 1 hts gX9_teach_X4_hasPerson rfl rfl rfl (by decide +kernel) ⟨Nat.le_of_ble_eq_true rfl, Nat.le_of_ble_eq_true rfl⟩) (z_preV hN hK hP hD (zk_lt (rfl : zk 10 = 4) (by decide)) (zx_4 (rfl : zk 10 = 4)) rfl) rfl rfl hl.1 rfl (lv_room (Nat.le_of_ble_eq_true rfl)) dX9_teach_5 ⟨Nat.zero_le _, Nat.zero_le _⟩) hS (fun H locs hP hD hS => ?_)
  refine lv_if_ne (tgt := 13) hx hb dX9_teach_8 (by decide) (fun b4 => ?_) (fun b4 => ?_)
  · have hF := zif_f b4 hF
    refine lv_iload_n hx hb dX9_teach_13 rfl (lv_at hl 2 rfl) ?_
    refine lv_bipush (v := (8 : Int32)) hx hb dX9_teach_14 (by decide) ?_
    obtain ⟨r6, σ5, hC7, hF⟩ := zbd_inv hF
    refine z_calli (va_runS (As := [.int p2, .int (8 : Int32)]) (rest := []) ⟨hx, hb, hml, hown, hts⟩ (CX9_isBelow l D cI cS cP ad A n σ1 σ5 r6 p2 (8 : Int32) hC7) (va_cwS 2 hts gX9_teach_X9_isBelow rfl rfl rfl (by decide +kernel) ⟨Nat.le_of_ble_eq_true rfl, Nat.le_of_ble_eq_true rfl⟩) (z_preS hN hK hP hD) rfl rfl hl.1 rfl (lv_room (Nat.le_of_ble_eq_true rfl)) dX9_teach_16 ⟨Nat.zero_le _, Nat.zero_le _⟩) hS (fun H locs hP hD hS => ?_)
    refine lv_if_ne (tgt := 25) hx hb dX9_teach_19 (by decide) (fun b8 => ?_) (fun b8 => ?_)
    · have hF := zif_f b8 hF
      refine lv_aload_n hx hb dX9_teach_25 rfl (lv_at hl 0 rfl) ?_
      refine z_get (ci := 8) (C := RX9) (T := TX9) (N := 11) hx hb hts iX9_teach_X9 hown hK hP (zk_lt (rfl : zk 0 = 8) (by decide)) (zx_8 (rfl : zk 0 = 8)) rfl 1 (by decide) kX9_teach_f20 rfl (v := .ref (ad 10)) rfl dX9_teach_26 ?_
      refine z_get (ci := 4) (C := RX4) (T := TX4) (N := 3) hx hb hts iX9_teach_X4 hown hK hP (zk_lt (rfl : zk 10 = 4) (by decide)) (zx_4 (rfl : zk 10 = 4)) rfl 1 (by decide) kX9_teach_f108 rfl (v := .ref (ad 12)) rfl dX9_teach_29 ?_
      refine lv_iload_n hx hb dX9_teach_32 rfl (lv_at hl 1 rfl) ?_
      obtain ⟨g9, hF⟩ := zgd_inv hF
      refine z_aldq hx hb hK hP 2 (zk_lt (zk_4p (rfl : zk 10 = 4)) (by decide)) (zx_22 (zk_4p (rfl : zk 10 = 4))) rfl g9 dX9_teach_33 ?_
      refine z_get (ci := 2) (C := RX2) (T := TX2) (N := 4) hx hb hts iX9_teach_X2 hown hK hP (zk_lt (zk_22p (zk_4p (rfl : zk 10 = 4)) g9) (by decide)) (zx_2 (zk_22p (zk_4p (rfl : zk 10 = 4)) g9)) rfl 2 (by decide) kX9_teach_f120 rfl (v := .int (σ5 (13 + (p1 : Int32).toNatClampNeg) 2)) rfl dX9_teach_34 ?_
      refine lv_istore_n (lv' := [(3, .int (σ5 (13 + (p1 : Int32).toNatClampNeg) 2)), (0, .ref (ad 0)), (1, .int p1), (2, .int p2)]) hx hb dX9_teach_37 rfl hl (by decide) rfl (fun ls hl => ?_)
      refine lv_aload_n hx hb dX9_teach_38 rfl (lv_at hl 1 rfl) ?_
      refine z_get (ci := 8) (C := RX9) (T := TX9) (N := 11) hx hb hts iX9_teach_X9 hown hK hP (zk_lt (rfl : zk 0 = 8) (by decide)) (zx_8 (rfl : zk 0 = 8)) rfl 1 (by decide) kX9_teach_f20 rfl (v := .ref (ad 10)) rfl dX9_teach_39 ?_
      refine z_get (ci := 4) (C := RX4) (T := TX4) (N := 3) hx hb hts iX9_teach_X4 hown hK hP (zk_lt (rfl : zk 10 = 4) (by decide)) (zx_4 (rfl : zk 10 = 4)) rfl 1 (by decide) kX9_teach_f108 rfl (v := .ref (ad 12)) rfl dX9_teach_42 ?_
      refine lv_iload_n hx hb dX9_teach_45 rfl (lv_at hl 2 rfl) ?_
      obtain ⟨g10, hF⟩ := zgd_inv hF
      refine z_aldq hx hb hK hP 2 (zk_lt (zk_4p (rfl : zk 10 = 4)) (by decide)) (zx_22 (zk_4p (rfl : zk 10 = 4))) rfl g10 dX9_teach_46 ?_
      refine lv_iload_n hx hb dX9_teach_47 rfl (lv_at hl 3 rfl) ?_
      obtain ⟨σ11, eσ11, hF⟩ := zlet_inv hF
      refine z_put (ci := 2) (C := RX2) (T := TX2) (N := 4) hx hb hts iX9_teach_X2 tyX2 tyX2_ok nmX2 hown hK hP hD hS (zk_lt (zk_22p (zk_4p (rfl : zk 10 = 4)) g10) (by decide)) (zx_2 (zk_22p (zk_4p (rfl : zk 10 = 4)) g10)) rfl 2 (by decide) kX9_teach_f120 rfl rfl rfl rfl (Nat.le_of_ble_eq_true rfl) (zx_2 (zk_22p (zk_4p (rfl : zk 10 = 4)) g10)) dX9_teach_48 (fun H locs hP hD hS => ?_)
      have hP : va_P D vwCl (zW (zx cI cS cP ad) 41 ad σ11) H := by rw [eσ11]; exact hP
      have hD : va_D A (zW (zx cI cS cP ad) 41 ad σ11) := by rw [eσ11]; exact hD
      refine lv_iload_n hx hb dX9_teach_51 rfl (lv_at hl 0 rfl) ?_
      exact z_iret hx hb hr hlocks hN hK hP hD hS hF dX9_teach_52
    · have hF := zif_t b8 hF
      refine lv_bipush (v := (-2 : Int32)) hx hb dX9_teach_22 (by decide) ?_
      exact z_iret hx hb hr hlocks hN hK hP hD hS hF dX9_teach_24
  · have hF := zif_t b4 hF
    refine lv_iconst (v := (-1 : Int32)) hx hb dX9_teach_11 (by decide) ?_
    exact z_iret hx hb hr hlocks hN hK hP hD hS hF dX9_teach_12
theorem kX9_sharpen_f20 : Cond.fieldLink RX9 20 "LeastAsked" "now" "LLeastAsked$Province;" ∈ wsX9_sharpen := by decide +kernel
theorem kX9_sharpen_f108 : Cond.fieldLink RX9 108 "LeastAsked$Province" "people" "[LLeastAsked$Person;" ∈ wsX9_sharpen := by decide +kernel
theorem kX9_sharpen_f123 : Cond.fieldLink RX9 123 "LeastAsked$Person" "wit" "I" ∈ wsX9_sharpen := by decide +kernel
theorem iX9_sharpen_X9 : ∀ w ∈ u_ws RX9 TX9 11, w ∈ wsX9_sharpen := fun _ h => List.mem_cons_of_mem _ (List.mem_append_left _ (List.mem_append_left _ (List.mem_append_right _ h)))
theorem iX9_sharpen_X4 : ∀ w ∈ u_ws RX4 TX4 3, w ∈ wsX9_sharpen := fun _ h => List.mem_cons_of_mem _ (List.mem_append_left _ (List.mem_append_right _ h))
theorem iX9_sharpen_X2 : ∀ w ∈ u_ws RX2 TX2 4, w ∈ wsX9_sharpen := fun _ h => List.mem_cons_of_mem _ (List.mem_append_right _ h)
set_option maxHeartbeats 4000000 in
set_option maxRecDepth 100000 in
theorem CX9_sharpen (l : Launch) (D : va_G) (cI cS cP : ClassId) (ad : Nat → Nat) (A : Nat → Prop) (n : Nat) (σ σ' : zMem) (r0 : Int32) (p1 : Int32) (p2 : Int32) (hF : FX9_sharpen n σ p1 p2 = some (r0, σ')) : Met l yX9_sharpen wsX9_sharpen ({ frames := 2, cells := 0, slots := 0, locals := 42 } : Room) (va_Pc [.ref (ad 0), .int p1, .int p2] (zB (zx cI cS cP ad) 41 ad D (zty cI cS cP) A σ)) (va_Qi (fun r u => r = r0 ∧ u = σ') (zB (zx cI cS cP ad) 41 ad D (zty cI cS cP) A) A) 0 0 A := by
  refine Met.ofW (cc := cX9_sharpen) (maxL := 4) (ret := (some .int)) (by decide) rfl ?_
  intro p e s m args below meth c s₁ B hml hv
  obtain ⟨rfl, hP, hK, hD, hN⟩ := hv
  have hx := B.exec
  have hb := B.bytes
  have hr := B.returns
  have hts := atoms_spec (ws := wsX9_sharpen) B.pre
  have hown : s.vm.findClass RX9 = some m.cls := findClass_of_methodNamed B.named
  have hlocks := B.notSynchronized
  have hS : va_S A s.heap s.heap [] := va_S.rf
  have hl := lv_entry ([.ref (ad 0), .int p1, .int p2]) (n := 4) (Nat.le_of_ble_eq_true rfl)
  rw [lg_entry_eq]
  generalize (lg_sl ([.ref (ad 0), .int p1, .int p2]) ++ List.replicate (4 - (lg_sl ([.ref (ad 0), .int p1, .int p2])).length) Slot.unset).toArray = ls at hl ⊢
  have hl : lv_has ls 4 [(0, .ref (ad 0)), (1, .int p1), (2, .int p2)] := hl
  clear B
  unfold FX9_sharpen at hF
  refine lv_aload_n hx hb dX9_sharpen_0 rfl (lv_at hl 0 rfl) ?_
  refine z_get (ci := 8) (C := RX9) (T := TX9) (N := 11) hx hb hts iX9_sharpen_X9 hown hK hP (zk_lt (rfl : zk 0 = 8) (by decide)) (zx_8 (rfl : zk 0 = 8)) rfl 1 (by decide) kX9_sharpen_f20 rfl (v := .ref (ad 10)) rfl dX9_sharpen_1 ?_
  refine lv_iload_n hx hb dX9_sharpen_4 rfl (lv_at hl 1 rfl) ?_
  obtain ⟨r2, σ1, hC3, hF⟩ := zbd_inv hF
  refine z_calli (va_runV (As := [.int p1]) (rest := []) ⟨hx, hb, hml, hown, hts⟩ (CX4_hasPerson l D cI cS cP ad A n σ σ1 r2 10 p1 (rfl : zk 10 = 4) hC3) (cwV 1 hts gX9_sharpen_X4_hasPerson rfl rfl rfl (by decide +kernel) ⟨Nat.le_of_ble_eq_true rfl, Nat.le_of_ble_eq_true rfl⟩) (z_preV hN hK hP hD (zk_lt (rfl : zk 10 = 4) (by decide)) (zx_4 (rfl : zk 10 = 4)) rfl) rfl rfl hl.1 rfl (lv_room (Nat.le_of_ble_eq_true rfl)) dX9_sharpen_5 ⟨Nat.zero_le _, Nat.zero_le _⟩) hS (fun H locs hP hD hS => ?_)
  refine lv_if_ne (tgt := 13) hx hb dX9_sharpen_8 (by decide) (fun b4 => ?_) (fun b4 => ?_)
  · have hF := zif_f b4 hF
    refine lv_iload_n hx hb dX9_sharpen_13 rfl (lv_at hl 2 rfl) ?_
    refine lv_bipush (v := (10 : Int32)) hx hb dX9_sharpen_14 (by decide) ?_
    obtain ⟨r6, σ5, hC7, hF⟩ := zbd_inv hF
    refine z_calli (va_runS (As := [.int p2, .int (10 : Int32)]) (rest := []) ⟨hx, hb, hml, hown, hts⟩ (CX9_isBelow l D cI cS cP ad A n σ1 σ5 r6 p2 (10 : Int32) hC7) (va_cwS 2 hts gX9_sharpen_X9_isBelow rfl rfl rfl (by decide +kernel) ⟨Nat.le_of_ble_eq_true rfl, Nat.le_of_ble_eq_true rfl⟩) (z_preS hN hK hP hD) rfl rfl hl.1 rfl (lv_room (Nat.le_of_ble_eq_true rfl)) dX9_sharpen_16 ⟨Nat.zero_le _, Nat.zero_le _⟩) hS (fun H locs hP hD hS => ?_)
    refine lv_if_ne (tgt := 25) hx hb dX9_sharpen_19 (by decide) (fun b8 => ?_) (fun b8 => ?_)
    · have hF := zif_f b8 hF
      refine lv_aload_n hx hb dX9_sharpen_25 rfl (lv_at hl 0 rfl) ?_
      refine z_get (ci := 8) (C := RX9) (T := TX9) (N := 11) hx hb hts iX9_sharpen_X9 hown hK hP (zk_lt (rfl : zk 0 = 8) (by decide)) (zx_8 (rfl : zk 0 = 8)) rfl 1 (by decide) kX9_sharpen_f20 rfl (v := .ref (ad 10)) rfl dX9_sharpen_26 ?_
      refine z_get (ci := 4) (C := RX4) (T := TX4) (N := 3) hx hb hts iX9_sharpen_X4 hown hK hP (zk_lt (rfl : zk 10 = 4) (by decide)) (zx_4 (rfl : zk 10 = 4)) rfl 1 (by decide) kX9_sharpen_f108 rfl (v := .ref (ad 12)) rfl dX9_sharpen_29 ?_
      refine lv_iload_n hx hb dX9_sharpen_32 rfl (lv_at hl 1 rfl) ?_
      obtain ⟨g9, hF⟩ := zgd_inv hF
      refine z_aldq hx hb hK hP 2 (zk_lt (zk_4p (rfl : zk 10 = 4)) (by decide)) (zx_22 (zk_4p (rfl : zk 10 = 4))) rfl g9 dX9_sharpen_33 ?_
      refine z_get (ci := 2) (C := RX2) (T := TX2) (N := 4) hx hb hts iX9_sharpen_X2 hown hK hP (zk_lt (zk_22p (zk_4p (rfl : zk 10 = 4)) g9) (by decide)) (zx_2 (zk_22p (zk_4p (rfl : zk 10 = 4)) g9)) rfl 3 (by decide) kX9_sharpen_f123 rfl (v := .int (σ5 (13 + (p1 : Int32).toNatClampNeg) 3)) rfl dX9_sharpen_34 ?_
      refine lv_istore_n (lv' := [(3, .int (σ5 (13 + (p1 : Int32).toNatClampNeg) 3)), (0, .ref (ad 0)), (1, .int p1), (2, .int p2)]) hx hb dX9_sharpen_37 rfl hl (by decide) rfl (fun ls hl => ?_)
      refine lv_aload_n hx hb dX9_sharpen_38 rfl (lv_at hl 1 rfl) ?_
      refine z_get (ci := 8) (C := RX9) (T := TX9) (N := 11) hx hb hts iX9_sharpen_X9 hown hK hP (zk_lt (rfl : zk 0 = 8) (by decide)) (zx_8 (rfl : zk 0 = 8)) rfl 1 (by decide) kX9_sharpen_f20 rfl (v := .ref (ad 10)) rfl dX9_sharpen_39 ?_
      refine z_get (ci := 4) (C := RX4) (T := TX4) (N := 3) hx hb hts iX9_sharpen_X4 hown hK hP (zk_lt (rfl : zk 10 = 4) (by decide)) (zx_4 (rfl : zk 10 = 4)) rfl 1 (by decide) kX9_sharpen_f108 rfl (v := .ref (ad 12)) rfl dX9_sharpen_42 ?_
      refine lv_iload_n hx hb dX9_sharpen_45 rfl (lv_at hl 2 rfl) ?_
      obtain ⟨g10, hF⟩ := zgd_inv hF
      refine z_aldq hx hb hK hP 2 (zk_lt (zk_4p (rfl : zk 10 = 4)) (by decide)) (zx_22 (zk_4p (rfl : zk 10 = 4))) rfl g10 dX9_sharpen_46 ?_
      refine lv_iload_n hx hb dX9_sharpen_47 rfl (lv_at hl 3 rfl) ?_
      obtain ⟨σ11, eσ11, hF⟩ := zlet_inv hF
      refine z_put (ci := 2) (C := RX2) (T := TX2) (N := 4) hx hb hts iX9_sharpen_X2 tyX2 tyX2_ok nmX2 hown hK hP hD hS (zk_lt (zk_22p (zk_4p (rfl : zk 10 = 4)) g10) (by decide)) (zx_2 (zk_22p (zk_4p (rfl : zk 10 = 4)) g10)) rfl 3 (by decide) kX9_sharpen_f123 rfl rfl rfl rfl (Nat.le_of_ble_eq_true rfl) (zx_2 (zk_22p (zk_4p (rfl : zk 10 = 4)) g10)) dX9_sharpen_48 (fun H locs hP hD hS => ?_)
      have hP : va_P D vwCl (zW (zx cI cS cP ad) 41 ad σ11) H := by rw [eσ11]; exact hP
      have hD : va_D A (zW (zx cI cS cP ad) 41 ad σ11) := by rw [eσ11]; exact hD
      refine lv_iload_n hx hb dX9_sharpen_51 rfl (lv_at hl 0 rfl) ?_
      exact z_iret hx hb hr hlocks hN hK hP hD hS hF dX9_sharpen_52
    · have hF := zif_t b8 hF
      refine lv_bipush (v := (-2 : Int32)) hx hb dX9_sharpen_22 (by decide) ?_
      exact z_iret hx hb hr hlocks hN hK hP hD hS hF dX9_sharpen_24
  · have hF := zif_t b4 hF
    refine lv_iconst (v := (-1 : Int32)) hx hb dX9_sharpen_11 (by decide) ?_
    exact z_iret hx hb hr hlocks hN hK hP hD hS hF dX9_sharpen_12
theorem kX9_brings_f20 : Cond.fieldLink RX9 20 "LeastAsked" "now" "LLeastAsked$Province;" ∈ wsX9_brings := by decide +kernel
theorem iX9_brings_X9 : ∀ w ∈ u_ws RX9 TX9 11, w ∈ wsX9_brings := fun _ h => List.mem_cons_of_mem _ (List.mem_append_left _ (List.mem_append_left _ (List.mem_append_right _ h)))
set_option maxHeartbeats 4000000 in
set_option maxRecDepth 100000 in
theorem CX9_brings (l : Launch) (D : va_G) (cI cS cP : ClassId) (ad : Nat → Nat) (A : Nat → Prop) (n : Nat) (σ σ' : zMem) (r0 : Int32) (p1 : Int32) (p2 : Int32) (hF : FX9_brings n σ p1 p2 = some (r0, σ')) : Met l yX9_brings wsX9_brings ({ frames := 2, cells := 0, slots := 0, locals := 44 } : Room) (va_Pc [.ref (ad 0), .int p1, .int p2] (zB (zx cI cS cP ad) 41 ad D (zty cI cS cP) A σ)) (va_Qi (fun r u => r = r0 ∧ u = σ') (zB (zx cI cS cP ad) 41 ad D (zty cI cS cP) A) A) 0 0 A := by
  refine Met.ofW (cc := cX9_brings) (maxL := 3) (ret := (some .int)) (by decide) rfl ?_
  intro p e s m args below meth c s₁ B hml hv
  obtain ⟨rfl, hP, hK, hD, hN⟩ := hv
  have hx := B.exec
  have hb := B.bytes
  have hr := B.returns
  have hts := atoms_spec (ws := wsX9_brings) B.pre
  have hown : s.vm.findClass RX9 = some m.cls := findClass_of_methodNamed B.named
  have hlocks := B.notSynchronized
  have hS : va_S A s.heap s.heap [] := va_S.rf
  have hl := lv_entry ([.ref (ad 0), .int p1, .int p2]) (n := 3) (Nat.le_of_ble_eq_true rfl)
  rw [lg_entry_eq]
  generalize (lg_sl ([.ref (ad 0), .int p1, .int p2]) ++ List.replicate (3 - (lg_sl ([.ref (ad 0), .int p1, .int p2])).length) Slot.unset).toArray = ls at hl ⊢
  have hl : lv_has ls 3 [(0, .ref (ad 0)), (1, .int p1), (2, .int p2)] := hl
  clear B
  unfold FX9_brings at hF
  refine lv_aload_n hx hb dX9_brings_0 rfl (lv_at hl 0 rfl) ?_
  refine z_get (ci := 8) (C := RX9) (T := TX9) (N := 11) hx hb hts iX9_brings_X9 hown hK hP (zk_lt (rfl : zk 0 = 8) (by decide)) (zx_8 (rfl : zk 0 = 8)) rfl 1 (by decide) kX9_brings_f20 rfl (v := .ref (ad 10)) rfl dX9_brings_1 ?_
  refine lv_iload_n hx hb dX9_brings_4 rfl (lv_at hl 1 rfl) ?_
  obtain ⟨r2, σ1, hC3, hF⟩ := zbd_inv hF
  refine z_calli (va_runV (As := [.int p1]) (rest := []) ⟨hx, hb, hml, hown, hts⟩ (CX4_hasPerson l D cI cS cP ad A n σ σ1 r2 10 p1 (rfl : zk 10 = 4) hC3) (cwV 1 hts gX9_brings_X4_hasPerson rfl rfl rfl (by decide +kernel) ⟨Nat.le_of_ble_eq_true rfl, Nat.le_of_ble_eq_true rfl⟩) (z_preV hN hK hP hD (zk_lt (rfl : zk 10 = 4) (by decide)) (zx_4 (rfl : zk 10 = 4)) rfl) rfl rfl hl.1 rfl (lv_room (Nat.le_of_ble_eq_true rfl)) dX9_brings_5 ⟨Nat.zero_le _, Nat.zero_le _⟩) hS (fun H locs hP hD hS => ?_)
  refine lv_if_eq (tgt := 22) hx hb dX9_brings_8 (by decide) (fun b4 => ?_) (fun b4 => ?_)
  · have hF := zif_t b4 hF
    refine lv_iconst (v := (-1 : Int32)) hx hb dX9_brings_22 (by decide) ?_
    exact z_iret hx hb hr hlocks hN hK hP hD hS hF dX9_brings_23
  · have hF := zif_f b4 hF
    refine lv_aload_n hx hb dX9_brings_11 rfl (lv_at hl 0 rfl) ?_
    refine z_get (ci := 8) (C := RX9) (T := TX9) (N := 11) hx hb hts iX9_brings_X9 hown hK hP (zk_lt (rfl : zk 0 = 8) (by decide)) (zx_8 (rfl : zk 0 = 8)) rfl 1 (by decide) kX9_brings_f20 rfl (v := .ref (ad 10)) rfl dX9_brings_12 ?_
    refine lv_iload_n hx hb dX9_brings_15 rfl (lv_at hl 2 rfl) ?_
    obtain ⟨r6, σ5, hC7, hF⟩ := zbd_inv hF
    refine z_calli (va_runV (As := [.int p2]) (rest := []) ⟨hx, hb, hml, hown, hts⟩ (CX4_hasMatter l D cI cS cP ad A n σ1 σ5 r6 10 p2 (rfl : zk 10 = 4) hC7) (cwV 1 hts gX9_brings_X4_hasMatter rfl rfl rfl (by decide +kernel) ⟨Nat.le_of_ble_eq_true rfl, Nat.le_of_ble_eq_true rfl⟩) (z_preV hN hK hP hD (zk_lt (rfl : zk 10 = 4) (by decide)) (zx_4 (rfl : zk 10 = 4)) rfl) rfl rfl hl.1 rfl (lv_room (Nat.le_of_ble_eq_true rfl)) dX9_brings_16 ⟨Nat.zero_le _, Nat.zero_le _⟩) hS (fun H locs hP hD hS => ?_)
    refine lv_if_ne (tgt := 24) hx hb dX9_brings_19 (by decide) (fun b8 => ?_) (fun b8 => ?_)
    · have hF := zif_f b8 hF
      refine lv_aload_n hx hb dX9_brings_24 rfl (lv_at hl 0 rfl) ?_
      refine z_get (ci := 8) (C := RX9) (T := TX9) (N := 11) hx hb hts iX9_brings_X9 hown hK hP (zk_lt (rfl : zk 0 = 8) (by decide)) (zx_8 (rfl : zk 0 = 8)) rfl 1 (by decide) kX9_brings_f20 rfl (v := .ref (ad 10)) rfl dX9_brings_25 ?_
      refine lv_iload_n hx hb dX9_brings_28 rfl (lv_at hl 1 rfl) ?_
      refine lv_iload_n hx hb dX9_brings_29 rfl (lv_at hl 2 rfl) ?_
      obtain ⟨r10, σ9, hC11, hF⟩ := zbd_inv hF
      refine z_calli (va_runV (As := [.int p1, .int p2]) (rest := []) ⟨hx, hb, hml, hown, hts⟩ (CX4_bringing l D cI cS cP ad A n σ5 σ9 r10 10 p1 p2 (rfl : zk 10 = 4) hC11) (cwV 2 hts gX9_brings_X4_bringing rfl rfl rfl (by decide +kernel) ⟨Nat.le_of_ble_eq_true rfl, Nat.le_of_ble_eq_true rfl⟩) (z_preV hN hK hP hD (zk_lt (rfl : zk 10 = 4) (by decide)) (zx_4 (rfl : zk 10 = 4)) rfl) rfl rfl hl.1 rfl (lv_room (Nat.le_of_ble_eq_true rfl)) dX9_brings_30 ⟨Nat.zero_le _, Nat.zero_le _⟩) hS (fun H locs hP hD hS => ?_)
      exact z_iret hx hb hr hlocks hN hK hP hD hS hF dX9_brings_33
    · have hF := zif_t b8 hF
      refine lv_iconst (v := (-1 : Int32)) hx hb dX9_brings_22 (by decide) ?_
      exact z_iret hx hb hr hlocks hN hK hP hD hS hF dX9_brings_23
theorem kX9_question_f20 : Cond.fieldLink RX9 20 "LeastAsked" "now" "LLeastAsked$Province;" ∈ wsX9_question := by decide +kernel
theorem kX9_question_f108 : Cond.fieldLink RX9 108 "LeastAsked$Province" "people" "[LLeastAsked$Person;" ∈ wsX9_question := by decide +kernel
theorem kX9_question_f117 : Cond.fieldLink RX9 117 "LeastAsked$Person" "asked" "I" ∈ wsX9_question := by decide +kernel
theorem kX9_question_f62 : Cond.fieldLink RX9 62 "LeastAsked" "questions" "I" ∈ wsX9_question := by decide +kernel
theorem kX9_question_f66 : Cond.fieldLink RX9 66 "LeastAsked" "brought" "I" ∈ wsX9_question := by decide +kernel
theorem iX9_question_X9 : ∀ w ∈ u_ws RX9 TX9 11, w ∈ wsX9_question := fun _ h => List.mem_cons_of_mem _ (List.mem_append_left _ (List.mem_append_left _ (List.mem_append_right _ h)))
theorem iX9_question_X4 : ∀ w ∈ u_ws RX4 TX4 3, w ∈ wsX9_question := fun _ h => List.mem_cons_of_mem _ (List.mem_append_left _ (List.mem_append_right _ h))
theorem iX9_question_X2 : ∀ w ∈ u_ws RX2 TX2 4, w ∈ wsX9_question := fun _ h => List.mem_cons_of_mem _ (List.mem_append_right _ h)
set_option maxHeartbeats 4000000 in
set_option maxRecDepth 100000 in
theorem CX9_question (l : Launch) (D : va_G) (cI cS cP : ClassId) (ad : Nat → Nat) (A : Nat → Prop) (n : Nat) (σ σ' : zMem) (r0 : Int32) (p1 : Int32) (hF : FX9_question n σ p1 = some (r0, σ')) : Met l yX9_question wsX9_question ({ frames := 2, cells := 0, slots := 0, locals := 44 } : Room) (va_Pc [.ref (ad 0), .int p1] (zB (zx cI cS cP ad) 41 ad D (zty cI cS cP) A σ)) (va_Qi (fun r u => r = r0 ∧ u = σ') (zB (zx cI cS cP ad) 41 ad D (zty cI cS cP) A) A) 0 0 A := by
  refine Met.ofW (cc := cX9_question) (maxL := 3) (ret := (some .int)) (by decide) rfl ?_
  intro p e s m args below meth c s₁ B hml hv
  obtain ⟨rfl, hP, hK, hD, hN⟩ := hv
  have hx := B.exec
  have hb := B.bytes
  have hr := B.returns
  have hts := atoms_spec (ws := wsX9_question) B.pre
  have hown : s.vm.findClass RX9 = some m.cls := findClass_of_methodNamed B.named
  have hlocks := B.notSynchronized
  have hS : va_S A s.heap s.heap [] := va_S.rf
  have hl := lv_entry ([.ref (ad 0), .int p1]) (n := 3) (Nat.le_of_ble_eq_true rfl)
  rw [lg_entry_eq]
  generalize (lg_sl ([.ref (ad 0), .int p1]) ++ List.replicate (3 - (lg_sl ([.ref (ad 0), .int p1])).length) Slot.unset).toArray = ls at hl ⊢
  have hl : lv_has ls 3 [(0, .ref (ad 0)), (1, .int p1)] := hl
  clear B
  unfold FX9_question at hF
  refine lv_aload_n hx hb dX9_question_0 rfl (lv_at hl 0 rfl) ?_
  refine z_get (ci := 8) (C := RX9) (T := TX9) (N := 11) hx hb hts iX9_question_X9 hown hK hP (zk_lt (rfl : zk 0 = 8) (by decide)) (zx_8 (rfl : zk 0 = 8)) rfl 1 (by decide) kX9_question_f20 rfl (v := .ref (ad 10)) rfl dX9_question_1 ?_
  refine lv_iload_n hx hb dX9_question_4 rfl (lv_at hl 1 rfl) ?_
  obtain ⟨r2, σ1, hC3, hF⟩ := zbd_inv hF
  refine z_calli (va_runV (As := [.int p1]) (rest := []) ⟨hx, hb, hml, hown, hts⟩ (CX4_hasMatter l D cI cS cP ad A n σ σ1 r2 10 p1 (rfl : zk 10 = 4) hC3) (cwV 1 hts gX9_question_X4_hasMatter rfl rfl rfl (by decide +kernel) ⟨Nat.le_of_ble_eq_true rfl, Nat.le_of_ble_eq_true rfl⟩) (z_preV hN hK hP hD (zk_lt (rfl : zk 10 = 4) (by decide)) (zx_4 (rfl : zk 10 = 4)) rfl) rfl rfl hl.1 rfl (lv_room (Nat.le_of_ble_eq_true rfl)) dX9_question_5 ⟨Nat.zero_le _, Nat.zero_le _⟩) hS (fun H locs hP hD hS => ?_)
  refine lv_if_ne (tgt := 13) hx hb dX9_question_8 (by decide) (fun b4 => ?_) (fun b4 => ?_)
  · have hF := zif_f b4 hF
    refine lv_aload_n hx hb dX9_question_13 rfl (lv_at hl 0 rfl) ?_
    refine z_get (ci := 8) (C := RX9) (T := TX9) (N := 11) hx hb hts iX9_question_X9 hown hK hP (zk_lt (rfl : zk 0 = 8) (by decide)) (zx_8 (rfl : zk 0 = 8)) rfl 1 (by decide) kX9_question_f20 rfl (v := .ref (ad 10)) rfl dX9_question_14 ?_
    obtain ⟨r6, σ5, hC7, hF⟩ := zbd_inv hF
    refine z_calli (va_runV (As := []) (rest := []) ⟨hx, hb, hml, hown, hts⟩ (CX4_first l D cI cS cP ad A n σ1 σ5 r6 10 (rfl : zk 10 = 4) hC7) (cwV 0 hts gX9_question_X4_first rfl rfl rfl (by decide +kernel) ⟨Nat.le_of_ble_eq_true rfl, Nat.le_of_ble_eq_true rfl⟩) (z_preV hN hK hP hD (zk_lt (rfl : zk 10 = 4) (by decide)) (zx_4 (rfl : zk 10 = 4)) rfl) rfl rfl hl.1 rfl (lv_room (Nat.le_of_ble_eq_true rfl)) dX9_question_17 ⟨Nat.zero_le _, Nat.zero_le _⟩) hS (fun H locs hP hD hS => ?_)
    refine lv_istore_n (lv' := [(2, .int r6), (0, .ref (ad 0)), (1, .int p1)]) hx hb dX9_question_20 rfl hl (by decide) rfl (fun ls hl => ?_)
    refine lv_aload_n hx hb dX9_question_21 rfl (lv_at hl 1 rfl) ?_
    refine z_get (ci := 8) (C := RX9) (T := TX9) (N := 11) hx hb hts iX9_question_X9 hown hK hP (zk_lt (rfl : zk 0 = 8) (by decide)) (zx_8 (rfl : zk 0 = 8)) rfl 1 (by decide) kX9_question_f20 rfl (v := .ref (ad 10)) rfl dX9_question_22 ?_
    refine z_get (ci := 4) (C := RX4) (T := TX4) (N := 3) hx hb hts iX9_question_X4 hown hK hP (zk_lt (rfl : zk 10 = 4) (by decide)) (zx_4 (rfl : zk 10 = 4)) rfl 1 (by decide) kX9_question_f108 rfl (v := .ref (ad 12)) rfl dX9_question_25 ?_
    refine lv_iload_n hx hb dX9_question_28 rfl (lv_at hl 0 rfl) ?_
    obtain ⟨g8, hF⟩ := zgd_inv hF
    refine z_aldq hx hb hK hP 2 (zk_lt (zk_4p (rfl : zk 10 = 4)) (by decide)) (zx_22 (zk_4p (rfl : zk 10 = 4))) rfl g8 dX9_question_29 ?_
    refine lv_dup hx hb dX9_question_30 rfl ?_
    refine z_get (ci := 2) (C := RX2) (T := TX2) (N := 4) hx hb hts iX9_question_X2 hown hK hP (zk_lt (zk_22p (zk_4p (rfl : zk 10 = 4)) g8) (by decide)) (zx_2 (zk_22p (zk_4p (rfl : zk 10 = 4)) g8)) rfl 1 (by decide) kX9_question_f117 rfl (v := .int (σ5 (13 + (r6 : Int32).toNatClampNeg) 1)) rfl dX9_question_31 ?_
    refine lv_iconst (v := (1 : Int32)) hx hb dX9_question_34 (by decide) ?_
    refine lv_iadd hx hb dX9_question_35 ?_
    obtain ⟨σ9, eσ9, hF⟩ := zlet_inv hF
    refine z_put (ci := 2) (C := RX2) (T := TX2) (N := 4) hx hb hts iX9_question_X2 tyX2 tyX2_ok nmX2 hown hK hP hD hS (zk_lt (zk_22p (zk_4p (rfl : zk 10 = 4)) g8) (by decide)) (zx_2 (zk_22p (zk_4p (rfl : zk 10 = 4)) g8)) rfl 1 (by decide) kX9_question_f117 rfl rfl rfl rfl (Nat.le_of_ble_eq_true rfl) (zx_2 (zk_22p (zk_4p (rfl : zk 10 = 4)) g8)) dX9_question_36 (fun H locs hP hD hS => ?_)
    have hP : va_P D vwCl (zW (zx cI cS cP ad) 41 ad σ9) H := by rw [eσ9]; exact hP
    have hD : va_D A (zW (zx cI cS cP ad) 41 ad σ9) := by rw [eσ9]; exact hD
    refine lv_aload_n hx hb dX9_question_39 rfl (lv_at hl 1 rfl) ?_
    refine lv_dup hx hb dX9_question_40 rfl ?_
    refine z_get (ci := 8) (C := RX9) (T := TX9) (N := 11) hx hb hts iX9_question_X9 hown hK hP (zk_lt (rfl : zk 0 = 8) (by decide)) (zx_8 (rfl : zk 0 = 8)) rfl 8 (by decide) kX9_question_f62 rfl (v := .int (σ9 0 8)) rfl dX9_question_41 ?_
    refine lv_iconst (v := (1 : Int32)) hx hb dX9_question_44 (by decide) ?_
    refine lv_iadd hx hb dX9_question_45 ?_
    obtain ⟨σ10, eσ10, hF⟩ := zlet_inv hF
    refine z_put (ci := 8) (C := RX9) (T := TX9) (N := 11) hx hb hts iX9_question_X9 tyX9 tyX9_ok nmX9 hown hK hP hD hS (zk_lt (rfl : zk 0 = 8) (by decide)) (zx_8 (rfl : zk 0 = 8)) rfl 8 (by decide) kX9_question_f62 rfl rfl rfl rfl (Nat.le_of_ble_eq_true rfl) (zx_8 (rfl : zk 0 = 8)) dX9_question_46 (fun H locs hP hD hS => ?_)
    have hP : va_P D vwCl (zW (zx cI cS cP ad) 41 ad σ10) H := by rw [eσ10]; exact hP
    have hD : va_D A (zW (zx cI cS cP ad) 41 ad σ10) := by rw [eσ10]; exact hD
    refine lv_aload_n hx hb dX9_question_49 rfl (lv_at hl 1 rfl) ?_
    refine lv_dup hx hb dX9_question_50 rfl ?_
    refine z_get (ci := 8) (C := RX9) (T := TX9) (N := 11) hx hb hts iX9_question_X9 hown hK hP (zk_lt (rfl : zk 0 = 8) (by decide)) (zx_8 (rfl : zk 0 = 8)) rfl 9 (by decide) kX9_question_f66 rfl (v := .int (σ10 0 9)) rfl dX9_question_51 ?_
    refine lv_aload_n hx hb dX9_question_54 rfl (lv_at hl 1 rfl) ?_
    refine z_get (ci := 8) (C := RX9) (T := TX9) (N := 11) hx hb hts iX9_question_X9 hown hK hP (zk_lt (rfl : zk 0 = 8) (by decide)) (zx_8 (rfl : zk 0 = 8)) rfl 1 (by decide) kX9_question_f20 rfl (v := .ref (ad 10)) rfl dX9_question_55 ?_
    refine lv_iload_n hx hb dX9_question_58 rfl (lv_at hl 0 rfl) ?_
    refine lv_iload_n hx hb dX9_question_59 rfl (lv_at hl 2 rfl) ?_
    obtain ⟨r12, σ11, hC13, hF⟩ := zbd_inv hF
    refine z_calli (va_runV (As := [.int r6, .int p1]) (rest := [.int (σ10 0 9), .ref (ad 0)]) ⟨hx, hb, hml, hown, hts⟩ (CX4_bringing l D cI cS cP ad A n σ10 σ11 r12 10 r6 p1 (rfl : zk 10 = 4) hC13) (cwV 2 hts gX9_question_X4_bringing rfl rfl rfl (by decide +kernel) ⟨Nat.le_of_ble_eq_true rfl, Nat.le_of_ble_eq_true rfl⟩) (z_preV hN hK hP hD (zk_lt (rfl : zk 10 = 4) (by decide)) (zx_4 (rfl : zk 10 = 4)) rfl) rfl rfl hl.1 rfl (lv_room (Nat.le_of_ble_eq_true rfl)) dX9_question_60 ⟨Nat.zero_le _, Nat.zero_le _⟩) hS (fun H locs hP hD hS => ?_)
    refine lv_iadd hx hb dX9_question_63 ?_
    obtain ⟨σ14, eσ14, hF⟩ := zlet_inv hF
    refine z_put (ci := 8) (C := RX9) (T := TX9) (N := 11) hx hb hts iX9_question_X9 tyX9 tyX9_ok nmX9 hown hK hP hD hS (zk_lt (rfl : zk 0 = 8) (by decide)) (zx_8 (rfl : zk 0 = 8)) rfl 9 (by decide) kX9_question_f66 rfl rfl rfl rfl (Nat.le_of_ble_eq_true rfl) (zx_8 (rfl : zk 0 = 8)) dX9_question_64 (fun H locs hP hD hS => ?_)
    have hP : va_P D vwCl (zW (zx cI cS cP ad) 41 ad σ14) H := by rw [eσ14]; exact hP
    have hD : va_D A (zW (zx cI cS cP ad) 41 ad σ14) := by rw [eσ14]; exact hD
    refine lv_iload_n hx hb dX9_question_67 rfl (lv_at hl 0 rfl) ?_
    exact z_iret hx hb hr hlocks hN hK hP hD hS hF dX9_question_68
  · have hF := zif_t b4 hF
    refine lv_iconst (v := (-1 : Int32)) hx hb dX9_question_11 (by decide) ?_
    exact z_iret hx hb hr hlocks hN hK hP hD hS hF dX9_question_12
theorem kX9_feint_f20 : Cond.fieldLink RX9 20 "LeastAsked" "now" "LLeastAsked$Province;" ∈ wsX9_feint := by decide +kernel
theorem kX9_feint_f108 : Cond.fieldLink RX9 108 "LeastAsked$Province" "people" "[LLeastAsked$Person;" ∈ wsX9_feint := by decide +kernel
theorem kX9_feint_f117 : Cond.fieldLink RX9 117 "LeastAsked$Person" "asked" "I" ∈ wsX9_feint := by decide +kernel
theorem iX9_feint_X9 : ∀ w ∈ u_ws RX9 TX9 11, w ∈ wsX9_feint := fun _ h => List.mem_cons_of_mem _ (List.mem_append_left _ (List.mem_append_left _ (List.mem_append_right _ h)))
theorem iX9_feint_X4 : ∀ w ∈ u_ws RX4 TX4 3, w ∈ wsX9_feint := fun _ h => List.mem_cons_of_mem _ (List.mem_append_left _ (List.mem_append_right _ h))
theorem iX9_feint_X2 : ∀ w ∈ u_ws RX2 TX2 4, w ∈ wsX9_feint := fun _ h => List.mem_cons_of_mem _ (List.mem_append_right _ h)
set_option maxHeartbeats 4000000 in
set_option maxRecDepth 100000 in
theorem CX9_feint (l : Launch) (D : va_G) (cI cS cP : ClassId) (ad : Nat → Nat) (A : Nat → Prop) (n : Nat) (σ σ' : zMem) (r0 : Int32) (p1 : Int32) (hF : FX9_feint n σ p1 = some (r0, σ')) : Met l yX9_feint wsX9_feint ({ frames := 2, cells := 0, slots := 0, locals := 42 } : Room) (va_Pc [.ref (ad 0), .int p1] (zB (zx cI cS cP ad) 41 ad D (zty cI cS cP) A σ)) (va_Qi (fun r u => r = r0 ∧ u = σ') (zB (zx cI cS cP ad) 41 ad D (zty cI cS cP) A) A) 0 0 A := by
  refine Met.ofW (cc := cX9_feint) (maxL := 2) (ret := (some .int)) (by decide) rfl ?_
  intro p e s m args below meth c s₁ B hml hv
  obtain ⟨rfl, hP, hK, hD, hN⟩ := hv
  have hx := B.exec
  have hb := B.bytes
  have hr := B.returns
  have hts := atoms_spec (ws := wsX9_feint) B.pre
  have hown : s.vm.findClass RX9 = some m.cls := findClass_of_methodNamed B.named
  have hlocks := B.notSynchronized
  have hS : va_S A s.heap s.heap [] := va_S.rf
  have hl := lv_entry ([.ref (ad 0), .int p1]) (n := 2) (Nat.le_of_ble_eq_true rfl)
  rw [lg_entry_eq]
  generalize (lg_sl ([.ref (ad 0), .int p1]) ++ List.replicate (2 - (lg_sl ([.ref (ad 0), .int p1])).length) Slot.unset).toArray = ls at hl ⊢
  have hl : lv_has ls 2 [(0, .ref (ad 0)), (1, .int p1)] := hl
  clear B
  unfold FX9_feint at hF
  refine lv_aload_n hx hb dX9_feint_0 rfl (lv_at hl 0 rfl) ?_
  refine z_get (ci := 8) (C := RX9) (T := TX9) (N := 11) hx hb hts iX9_feint_X9 hown hK hP (zk_lt (rfl : zk 0 = 8) (by decide)) (zx_8 (rfl : zk 0 = 8)) rfl 1 (by decide) kX9_feint_f20 rfl (v := .ref (ad 10)) rfl dX9_feint_1 ?_
  refine lv_iload_n hx hb dX9_feint_4 rfl (lv_at hl 1 rfl) ?_
  obtain ⟨r2, σ1, hC3, hF⟩ := zbd_inv hF
  refine z_calli (va_runV (As := [.int p1]) (rest := []) ⟨hx, hb, hml, hown, hts⟩ (CX4_hasPerson l D cI cS cP ad A n σ σ1 r2 10 p1 (rfl : zk 10 = 4) hC3) (cwV 1 hts gX9_feint_X4_hasPerson rfl rfl rfl (by decide +kernel) ⟨Nat.le_of_ble_eq_true rfl, Nat.le_of_ble_eq_true rfl⟩) (z_preV hN hK hP hD (zk_lt (rfl : zk 10 = 4) (by decide)) (zx_4 (rfl : zk 10 = 4)) rfl) rfl rfl hl.1 rfl (lv_room (Nat.le_of_ble_eq_true rfl)) dX9_feint_5 ⟨Nat.zero_le _, Nat.zero_le _⟩) hS (fun H locs hP hD hS => ?_)
  refine lv_if_ne (tgt := 13) hx hb dX9_feint_8 (by decide) (fun b4 => ?_) (fun b4 => ?_)
  · have hF := zif_f b4 hF
    refine lv_aload_n hx hb dX9_feint_13 rfl (lv_at hl 0 rfl) ?_
    refine z_get (ci := 8) (C := RX9) (T := TX9) (N := 11) hx hb hts iX9_feint_X9 hown hK hP (zk_lt (rfl : zk 0 = 8) (by decide)) (zx_8 (rfl : zk 0 = 8)) rfl 1 (by decide) kX9_feint_f20 rfl (v := .ref (ad 10)) rfl dX9_feint_14 ?_
    obtain ⟨r6, σ5, hC7, hF⟩ := zbd_inv hF
    refine z_calli (va_runV (As := []) (rest := []) ⟨hx, hb, hml, hown, hts⟩ (CX4_first l D cI cS cP ad A n σ1 σ5 r6 10 (rfl : zk 10 = 4) hC7) (cwV 0 hts gX9_feint_X4_first rfl rfl rfl (by decide +kernel) ⟨Nat.le_of_ble_eq_true rfl, Nat.le_of_ble_eq_true rfl⟩) (z_preV hN hK hP hD (zk_lt (rfl : zk 10 = 4) (by decide)) (zx_4 (rfl : zk 10 = 4)) rfl) rfl rfl hl.1 rfl (lv_room (Nat.le_of_ble_eq_true rfl)) dX9_feint_17 ⟨Nat.zero_le _, Nat.zero_le _⟩) hS (fun H locs hP hD hS => ?_)
    refine lv_iload_n hx hb dX9_feint_20 rfl (lv_at hl 1 rfl) ?_
    refine lv_icmp_eq (tgt := 27) hx hb dX9_feint_21 (by decide) (fun b8 => ?_) (fun b8 => ?_)
    · have hF := zif_t b8 hF
      refine lv_aload_n hx hb dX9_feint_27 rfl (lv_at hl 0 rfl) ?_
      refine z_get (ci := 8) (C := RX9) (T := TX9) (N := 11) hx hb hts iX9_feint_X9 hown hK hP (zk_lt (rfl : zk 0 = 8) (by decide)) (zx_8 (rfl : zk 0 = 8)) rfl 1 (by decide) kX9_feint_f20 rfl (v := .ref (ad 10)) rfl dX9_feint_28 ?_
      refine z_get (ci := 4) (C := RX4) (T := TX4) (N := 3) hx hb hts iX9_feint_X4 hown hK hP (zk_lt (rfl : zk 10 = 4) (by decide)) (zx_4 (rfl : zk 10 = 4)) rfl 1 (by decide) kX9_feint_f108 rfl (v := .ref (ad 12)) rfl dX9_feint_31 ?_
      refine lv_iload_n hx hb dX9_feint_34 rfl (lv_at hl 1 rfl) ?_
      obtain ⟨g9, hF⟩ := zgd_inv hF
      refine z_aldq hx hb hK hP 2 (zk_lt (zk_4p (rfl : zk 10 = 4)) (by decide)) (zx_22 (zk_4p (rfl : zk 10 = 4))) rfl g9 dX9_feint_35 ?_
      refine lv_dup hx hb dX9_feint_36 rfl ?_
      refine z_get (ci := 2) (C := RX2) (T := TX2) (N := 4) hx hb hts iX9_feint_X2 hown hK hP (zk_lt (zk_22p (zk_4p (rfl : zk 10 = 4)) g9) (by decide)) (zx_2 (zk_22p (zk_4p (rfl : zk 10 = 4)) g9)) rfl 1 (by decide) kX9_feint_f117 rfl (v := .int (σ5 (13 + (p1 : Int32).toNatClampNeg) 1)) rfl dX9_feint_37 ?_
      refine lv_iconst (v := (1 : Int32)) hx hb dX9_feint_40 (by decide) ?_
      refine lv_iadd hx hb dX9_feint_41 ?_
      obtain ⟨σ10, eσ10, hF⟩ := zlet_inv hF
      refine z_put (ci := 2) (C := RX2) (T := TX2) (N := 4) hx hb hts iX9_feint_X2 tyX2 tyX2_ok nmX2 hown hK hP hD hS (zk_lt (zk_22p (zk_4p (rfl : zk 10 = 4)) g9) (by decide)) (zx_2 (zk_22p (zk_4p (rfl : zk 10 = 4)) g9)) rfl 1 (by decide) kX9_feint_f117 rfl rfl rfl rfl (Nat.le_of_ble_eq_true rfl) (zx_2 (zk_22p (zk_4p (rfl : zk 10 = 4)) g9)) dX9_feint_42 (fun H locs hP hD hS => ?_)
      have hP : va_P D vwCl (zW (zx cI cS cP ad) 41 ad σ10) H := by rw [eσ10]; exact hP
      have hD : va_D A (zW (zx cI cS cP ad) 41 ad σ10) := by rw [eσ10]; exact hD
      refine lv_aload_n hx hb dX9_feint_45 rfl (lv_at hl 0 rfl) ?_
      refine z_get (ci := 8) (C := RX9) (T := TX9) (N := 11) hx hb hts iX9_feint_X9 hown hK hP (zk_lt (rfl : zk 0 = 8) (by decide)) (zx_8 (rfl : zk 0 = 8)) rfl 1 (by decide) kX9_feint_f20 rfl (v := .ref (ad 10)) rfl dX9_feint_46 ?_
      refine z_get (ci := 4) (C := RX4) (T := TX4) (N := 3) hx hb hts iX9_feint_X4 hown hK hP (zk_lt (rfl : zk 10 = 4) (by decide)) (zx_4 (rfl : zk 10 = 4)) rfl 1 (by decide) kX9_feint_f108 rfl (v := .ref (ad 12)) rfl dX9_feint_49 ?_
      refine lv_iload_n hx hb dX9_feint_52 rfl (lv_at hl 1 rfl) ?_
      obtain ⟨g11, hF⟩ := zgd_inv hF
      refine z_aldq hx hb hK hP 2 (zk_lt (zk_4p (rfl : zk 10 = 4)) (by decide)) (zx_22 (zk_4p (rfl : zk 10 = 4))) rfl g11 dX9_feint_53 ?_
      refine z_get (ci := 2) (C := RX2) (T := TX2) (N := 4) hx hb hts iX9_feint_X2 hown hK hP (zk_lt (zk_22p (zk_4p (rfl : zk 10 = 4)) g11) (by decide)) (zx_2 (zk_22p (zk_4p (rfl : zk 10 = 4)) g11)) rfl 1 (by decide) kX9_feint_f117 rfl (v := .int (σ10 (13 + (p1 : Int32).toNatClampNeg) 1)) rfl dX9_feint_54 ?_
      exact z_iret hx hb hr hlocks hN hK hP hD hS hF dX9_feint_57
    · have hF := zif_f b8 hF
      refine lv_bipush (v := (-3 : Int32)) hx hb dX9_feint_24 (by decide) ?_
      exact z_iret hx hb hr hlocks hN hK hP hD hS hF dX9_feint_26
  · have hF := zif_t b4 hF
    refine lv_iconst (v := (-1 : Int32)) hx hb dX9_feint_11 (by decide) ?_
    exact z_iret hx hb hr hlocks hN hK hP hD hS hF dX9_feint_12
set_option maxHeartbeats 4000000 in
set_option maxRecDepth 100000 in
theorem CX9_rowFault (l : Launch) (D : va_G) (cI cS cP : ClassId) (ad : Nat → Nat) (A : Nat → Prop) (n : Nat) (σ σ' : zMem) (r0 : Int32) (q1 : Nat) (p2 : Int32) (p3 : Int32) (p4 : Int32) (hq1 : zk q1 = 6) (hF : FX9_rowFault n q1 σ p2 p3 p4 = some (r0, σ')) : Met l yX9_rowFault wsX9_rowFault ({ frames := 1, cells := 0, slots := 0, locals := 22 } : Room) (va_Pc [.ref (ad q1), .int p2, .int p3, .int p4] (zB (zx cI cS cP ad) 41 ad D (zty cI cS cP) A σ)) (va_Qi (fun r u => r = r0 ∧ u = σ') (zB (zx cI cS cP ad) 41 ad D (zty cI cS cP) A) A) 0 0 A := by
  refine Met.ofW (cc := cX9_rowFault) (maxL := 5) (ret := (some .int)) (by decide) rfl ?_
  intro p e s m args below meth c s₁ B hml hv
  obtain ⟨rfl, hP, hK, hD, hN⟩ := hv
  have hx := B.exec
  have hb := B.bytes
  have hr := B.returns
  have hts := atoms_spec (ws := wsX9_rowFault) B.pre
  have hown : s.vm.findClass RX9 = some m.cls := findClass_of_methodNamed B.named
  have hlocks := B.notSynchronized
  have hS : va_S A s.heap s.heap [] := va_S.rf
  have hl := lv_entry ([.ref (ad q1), .int p2, .int p3, .int p4]) (n := 5) (Nat.le_of_ble_eq_true rfl)
  rw [lg_entry_eq]
  generalize (lg_sl ([.ref (ad q1), .int p2, .int p3, .int p4]) ++ List.replicate (5 - (lg_sl ([.ref (ad q1), .int p2, .int p3, .int p4])).length) Slot.unset).toArray = ls at hl ⊢
  have hl : lv_has ls 5 [(0, .ref (ad q1)), (1, .int p2), (2, .int p3), (3, .int p4)] := hl
  clear B
  unfold FX9_rowFault at hF
  refine lv_aload_n hx hb dX9_rowFault_0 rfl (lv_at hl 0 rfl) ?_
  refine lv_iload_n hx hb dX9_rowFault_1 rfl (lv_at hl 1 rfl) ?_
  obtain ⟨r2, σ1, hC3, hF⟩ := zbd_inv hF
  refine z_calli (va_runV (As := [.int p2]) (rest := []) ⟨hx, hb, hml, hown, hts⟩ (CX6_faultAs l D cI cS cP ad A n σ σ1 r2 q1 p2 hq1 hC3) (cwV 1 hts gX9_rowFault_X6_faultAs rfl rfl rfl (by decide +kernel) ⟨Nat.le_of_ble_eq_true rfl, Nat.le_of_ble_eq_true rfl⟩) (z_preV hN hK hP hD (zk_lt hq1 (by decide)) (zx_6 hq1) rfl) rfl rfl hl.1 rfl (lv_room (Nat.le_of_ble_eq_true rfl)) dX9_rowFault_2 ⟨Nat.zero_le _, Nat.zero_le _⟩) hS (fun H locs hP hD hS => ?_)
  refine lv_istore (lv' := [(4, .int r2), (0, .ref (ad q1)), (1, .int p2), (2, .int p3), (3, .int p4)]) hx hb dX9_rowFault_5 hl (by decide) rfl (fun ls hl => ?_)
  refine lv_iload hx hb dX9_rowFault_7 (lv_at hl 0 rfl) ?_
  refine lv_if_ne (tgt := 25) hx hb dX9_rowFault_9 (by decide) (fun b4 => ?_) (fun b4 => ?_)
  · have hF := zif_f b4 hF
    refine lv_iload hx hb dX9_rowFault_25 (lv_at hl 0 rfl) ?_
    exact z_iret hx hb hr hlocks hN hK hP hD hS hF dX9_rowFault_27
  · have hF := zif_t b4 hF
    refine lv_aload_n hx hb dX9_rowFault_12 rfl (lv_at hl 1 rfl) ?_
    refine lv_iload_n hx hb dX9_rowFault_13 rfl (lv_at hl 3 rfl) ?_
    refine lv_iload_n hx hb dX9_rowFault_14 rfl (lv_at hl 4 rfl) ?_
    obtain ⟨r6, σ5, hC7, hF⟩ := zbd_inv hF
    refine z_calli (va_runV (As := [.int p3, .int p4]) (rest := []) ⟨hx, hb, hml, hown, hts⟩ (CX6_holds l D cI cS cP ad A n σ1 σ5 r6 q1 p3 p4 hq1 hC7) (cwV 2 hts gX9_rowFault_X6_holds rfl rfl rfl (by decide +kernel) ⟨Nat.le_of_ble_eq_true rfl, Nat.le_of_ble_eq_true rfl⟩) (z_preV hN hK hP hD (zk_lt hq1 (by decide)) (zx_6 hq1) rfl) rfl rfl hl.1 rfl (lv_room (Nat.le_of_ble_eq_true rfl)) dX9_rowFault_15 ⟨Nat.zero_le _, Nat.zero_le _⟩) hS (fun H locs hP hD hS => ?_)
    refine lv_if_ne (tgt := 25) hx hb dX9_rowFault_18 (by decide) (fun b8 => ?_) (fun b8 => ?_)
    · have hF := zif_f b8 hF
      refine lv_iload hx hb dX9_rowFault_25 (lv_at hl 0 rfl) ?_
      exact z_iret hx hb hr hlocks hN hK hP hD hS hF dX9_rowFault_27
    · have hF := zif_t b8 hF
      refine lv_iconst (v := (3 : Int32)) hx hb dX9_rowFault_21 (by decide) ?_
      refine lv_goto (tgt := 27) hx hb dX9_rowFault_22 (by decide) ?_
      exact z_iret hx hb hr hlocks hN hK hP hD hS hF dX9_rowFault_27
theorem kX9_year_f69 : Cond.fieldLink RX9 69 "LeastAsked" "lastFault" "I" ∈ wsX9_year := by decide +kernel
theorem kX9_year_f13 : Cond.fieldLink RX9 13 "LeastAsked" "sheets" "[LLeastAsked$Sheet;" ∈ wsX9_year := by decide +kernel
theorem kX9_year_f20 : Cond.fieldLink RX9 20 "LeastAsked" "now" "LLeastAsked$Province;" ∈ wsX9_year := by decide +kernel
theorem kX9_year_f104 : Cond.fieldLink RX9 104 "LeastAsked$Province" "count" "I" ∈ wsX9_year := by decide +kernel
theorem kX9_year_f24 : Cond.fieldLink RX9 24 "LeastAsked" "trial" "LLeastAsked$Province;" ∈ wsX9_year := by decide +kernel
theorem kX9_year_f30 : Cond.fieldLink RX9 30 "LeastAsked" "yearRun" "LLeastAsked$YearRun;" ∈ wsX9_year := by decide +kernel
theorem iX9_year_X9 : ∀ w ∈ u_ws RX9 TX9 11, w ∈ wsX9_year := fun _ h => List.mem_cons_of_mem _ (List.mem_append_left _ (List.mem_append_left _ (List.mem_append_left _ (List.mem_append_left _ (List.mem_append_right _ h)))))
theorem iX9_year_X4 : ∀ w ∈ u_ws RX4 TX4 3, w ∈ wsX9_year := fun _ h => List.mem_cons_of_mem _ (List.mem_append_left _ (List.mem_append_left _ (List.mem_append_left _ (List.mem_append_right _ h))))
set_option maxHeartbeats 4000000 in
set_option maxRecDepth 100000 in
theorem CX9_year (l : Launch) (D : va_G) (cI cS cP : ClassId) (ad : Nat → Nat) (A : Nat → Prop) (n : Nat) (σ σ' : zMem) (r0 : Int32) (p1 : Int32) (p2 : Int32) (p3 : Int32) (p4 : Int32) (p5 : Int32) (hF : FX9_year n σ p1 p2 p3 p4 p5 = some (r0, σ')) : Met l yX9_year wsX9_year ({ frames := 5, cells := 0, slots := 0, locals := 117 } : Room) (va_Pc [.ref (ad 0), .int p1, .int p2, .int p3, .int p4, .int p5] (zB (zx cI cS cP ad) 41 ad D (zty cI cS cP) A σ)) (va_Qi (fun r u => r = r0 ∧ u = σ') (zB (zx cI cS cP ad) 41 ad D (zty cI cS cP) A) A) 0 0 A := by
  refine Met.ofW (cc := cX9_year) (maxL := 8) (ret := (some .int)) (by decide) rfl ?_
  intro p e s m args below meth c s₁ B hml hv
  obtain ⟨rfl, hP, hK, hD, hN⟩ := hv
  have hx := B.exec
  have hb := B.bytes
  have hr := B.returns
  have hts := atoms_spec (ws := wsX9_year) B.pre
  have hown : s.vm.findClass RX9 = some m.cls := findClass_of_methodNamed B.named
  have hlocks := B.notSynchronized
  have hS : va_S A s.heap s.heap [] := va_S.rf
  have hl := lv_entry ([.ref (ad 0), .int p1, .int p2, .int p3, .int p4, .int p5]) (n := 8) (Nat.le_of_ble_eq_true rfl)
  rw [lg_entry_eq]
  generalize (lg_sl ([.ref (ad 0), .int p1, .int p2, .int p3, .int p4, .int p5]) ++ List.replicate (8 - (lg_sl ([.ref (ad 0), .int p1, .int p2, .int p3, .int p4, .int p5])).length) Slot.unset).toArray = ls at hl ⊢
  have hl : lv_has ls 8 [(0, .ref (ad 0)), (1, .int p1), (2, .int p2), (3, .int p3), (4, .int p4), (5, .int p5)] := hl
  clear B
  unfold FX9_year at hF
  refine lv_aload_n hx hb dX9_year_0 rfl (lv_at hl 0 rfl) ?_
  refine lv_iconst (v := (0 : Int32)) hx hb dX9_year_1 (by decide) ?_
  obtain ⟨σ1, eσ1, hF⟩ := zlet_inv hF
  refine z_put (ci := 8) (C := RX9) (T := TX9) (N := 11) hx hb hts iX9_year_X9 tyX9 tyX9_ok nmX9 hown hK hP hD hS (zk_lt (rfl : zk 0 = 8) (by decide)) (zx_8 (rfl : zk 0 = 8)) rfl 10 (by decide) kX9_year_f69 rfl rfl rfl rfl (Nat.le_of_ble_eq_true rfl) (zx_8 (rfl : zk 0 = 8)) dX9_year_2 (fun H locs hP hD hS => ?_)
  have hP : va_P D vwCl (zW (zx cI cS cP ad) 41 ad σ1) H := by rw [eσ1]; exact hP
  have hD : va_D A (zW (zx cI cS cP ad) 41 ad σ1) := by rw [eσ1]; exact hD
  refine lv_iload_n hx hb dX9_year_5 rfl (lv_at hl 1 rfl) ?_
  obtain ⟨r3, σ2, hC4, hF⟩ := zbd_inv hF
  refine z_calli (va_runS (As := [.int p1]) (rest := []) ⟨hx, hb, hml, hown, hts⟩ (CX9_isSheet l D cI cS cP ad A n σ1 σ2 r3 p1 hC4) (va_cwS 1 hts gX9_year_X9_isSheet rfl rfl rfl (by decide +kernel) ⟨Nat.le_of_ble_eq_true rfl, Nat.le_of_ble_eq_true rfl⟩) (z_preS hN hK hP hD) rfl rfl hl.1 rfl (lv_room (Nat.le_of_ble_eq_true rfl)) dX9_year_6 ⟨Nat.zero_le _, Nat.zero_le _⟩) hS (fun H locs hP hD hS => ?_)
  refine lv_if_ne (tgt := 14) hx hb dX9_year_9 (by decide) (fun b5 => ?_) (fun b5 => ?_)
  · have hF := zif_f b5 hF
    refine lv_iload_n hx hb dX9_year_14 rfl (lv_at hl 2 rfl) ?_
    obtain ⟨r7, σ6, hC8, hF⟩ := zbd_inv hF
    refine z_calli (va_runS (As := [.int p2]) (rest := []) ⟨hx, hb, hml, hown, hts⟩ (CX9_isLane l D cI cS cP ad A n σ2 σ6 r7 p2 hC8) (va_cwS 1 hts gX9_year_X9_isLane rfl rfl rfl (by decide +kernel) ⟨Nat.le_of_ble_eq_true rfl, Nat.le_of_ble_eq_true rfl⟩) (z_preS hN hK hP hD) rfl rfl hl.1 rfl (lv_room (Nat.le_of_ble_eq_true rfl)) dX9_year_15 ⟨Nat.zero_le _, Nat.zero_le _⟩) hS (fun H locs hP hD hS => ?_)
    refine lv_if_eq (tgt := 41) hx hb dX9_year_18 (by decide) (fun b9 => ?_) (fun b9 => ?_)
    · have hF := zif_t b9 hF
      refine lv_bipush (v := (-2 : Int32)) hx hb dX9_year_41 (by decide) ?_
      exact z_iret hx hb hr hlocks hN hK hP hD hS hF dX9_year_43
    · have hF := zif_f b9 hF
      refine lv_iload hx hb dX9_year_21 (lv_at hl 4 rfl) ?_
      refine lv_if_lt (tgt := 41) hx hb dX9_year_23 (by decide) (fun b10 => ?_) (fun b10 => ?_)
      · have hF := zif_t b10 hF
        refine lv_bipush (v := (-2 : Int32)) hx hb dX9_year_41 (by decide) ?_
        exact z_iret hx hb hr hlocks hN hK hP hD hS hF dX9_year_43
      · have hF := zif_f b10 hF
        refine lv_iload hx hb dX9_year_26 (lv_at hl 4 rfl) ?_
        refine lv_bipush (v := (20 : Int32)) hx hb dX9_year_28 (by decide) ?_
        refine lv_icmp_gt (tgt := 41) hx hb dX9_year_30 (by decide) (fun b11 => ?_) (fun b11 => ?_)
        · have hF := zif_t b11 hF
          refine lv_bipush (v := (-2 : Int32)) hx hb dX9_year_41 (by decide) ?_
          exact z_iret hx hb hr hlocks hN hK hP hD hS hF dX9_year_43
        · have hF := zif_f b11 hF
          refine lv_iload hx hb dX9_year_33 (lv_at hl 5 rfl) ?_
          obtain ⟨r13, σ12, hC14, hF⟩ := zbd_inv hF
          refine z_calli (va_runS (As := [.int p5]) (rest := []) ⟨hx, hb, hml, hown, hts⟩ (CX8_tells l D cI cS cP ad A n σ6 σ12 r13 p5 hC14) (va_cwS 1 hts gX9_year_X8_tells rfl rfl rfl (by decide +kernel) ⟨Nat.le_of_ble_eq_true rfl, Nat.le_of_ble_eq_true rfl⟩) (z_preS hN hK hP hD) rfl rfl hl.1 rfl (lv_room (Nat.le_of_ble_eq_true rfl)) dX9_year_35 ⟨Nat.zero_le _, Nat.zero_le _⟩) hS (fun H locs hP hD hS => ?_)
          refine lv_if_ne (tgt := 44) hx hb dX9_year_38 (by decide) (fun b15 => ?_) (fun b15 => ?_)
          · have hF := zif_f b15 hF
            refine lv_aload_n hx hb dX9_year_44 rfl (lv_at hl 0 rfl) ?_
            refine z_get (ci := 8) (C := RX9) (T := TX9) (N := 11) hx hb hts iX9_year_X9 hown hK hP (zk_lt (rfl : zk 0 = 8) (by decide)) (zx_8 (rfl : zk 0 = 8)) rfl 0 (by decide) kX9_year_f13 rfl (v := .ref (ad 1)) rfl dX9_year_45 ?_
            refine lv_iload_n hx hb dX9_year_48 rfl (lv_at hl 1 rfl) ?_
            obtain ⟨g16, hF⟩ := zgd_inv hF
            refine z_aldq hx hb hK hP 1 (zk_lt (rfl : zk 1 = 21) (by decide)) (zx_21 (rfl : zk 1 = 21)) rfl g16 dX9_year_49 ?_
            refine lv_iload_n hx hb dX9_year_50 rfl (lv_at hl 2 rfl) ?_
            refine lv_iload_n hx hb dX9_year_51 rfl (lv_at hl 3 rfl) ?_
            refine lv_iconst (v := (2 : Int32)) hx hb dX9_year_52 (by decide) ?_
            refine lv_iload hx hb dX9_year_53 (lv_at hl 4 rfl) ?_
            refine lv_imul hx hb dX9_year_55 ?_
            obtain ⟨r18, σ17, hC19, hF⟩ := zbd_inv hF
            refine z_calli (va_runS (As := [.ref (ad (2 + (p1 : Int32).toNatClampNeg)), .int p2, .int p3, .int ((2 : Int32) * p4)]) (rest := []) ⟨hx, hb, hml, hown, hts⟩ (CX9_rowFault l D cI cS cP ad A n σ12 σ17 r18 (2 + (p1 : Int32).toNatClampNeg) p2 p3 ((2 : Int32) * p4) (zk_21s (rfl : zk 1 = 21) g16) hC19) (va_cwS 4 hts gX9_year_X9_rowFault rfl rfl rfl (by decide +kernel) ⟨Nat.le_of_ble_eq_true rfl, Nat.le_of_ble_eq_true rfl⟩) (z_preS hN hK hP hD) rfl rfl hl.1 rfl (lv_room (Nat.le_of_ble_eq_true rfl)) dX9_year_56 ⟨Nat.zero_le _, Nat.zero_le _⟩) hS (fun H locs hP hD hS => ?_)
            refine lv_istore (lv' := [(6, .int r18), (0, .ref (ad 0)), (1, .int p1), (2, .int p2), (3, .int p3), (4, .int p4), (5, .int p5)]) hx hb dX9_year_59 hl (by decide) rfl (fun ls hl => ?_)
            refine lv_iload hx hb dX9_year_61 (lv_at hl 0 rfl) ?_
            refine lv_if_eq (tgt := 73) hx hb dX9_year_63 (by decide) (fun b20 => ?_) (fun b20 => ?_)
            · have hF := zif_t b20 hF
              refine lv_aload_n hx hb dX9_year_73 rfl (lv_at hl 1 rfl) ?_
              refine z_get (ci := 8) (C := RX9) (T := TX9) (N := 11) hx hb hts iX9_year_X9 hown hK hP (zk_lt (rfl : zk 0 = 8) (by decide)) (zx_8 (rfl : zk 0 = 8)) rfl 1 (by decide) kX9_year_f20 rfl (v := .ref (ad 10)) rfl dX9_year_74 ?_
              refine z_get (ci := 4) (C := RX4) (T := TX4) (N := 3) hx hb hts iX9_year_X4 hown hK hP (zk_lt (rfl : zk 10 = 4) (by decide)) (zx_4 (rfl : zk 10 = 4)) rfl 2 (by decide) kX9_year_f104 rfl (v := .int (σ17 10 2)) rfl dX9_year_77 ?_
              refine lv_if_ne (tgt := 86) hx hb dX9_year_80 (by decide) (fun b21 => ?_) (fun b21 => ?_)
              · have hF := zif_f b21 hF
                refine lv_aload_n hx hb dX9_year_86 rfl (lv_at hl 1 rfl) ?_
                refine z_get (ci := 8) (C := RX9) (T := TX9) (N := 11) hx hb hts iX9_year_X9 hown hK hP (zk_lt (rfl : zk 0 = 8) (by decide)) (zx_8 (rfl : zk 0 = 8)) rfl 0 (by decide) kX9_year_f13 rfl (v := .ref (ad 1)) rfl dX9_year_87 ?_
                refine lv_iload_n hx hb dX9_year_90 rfl (lv_at hl 2 rfl) ?_
                obtain ⟨g22, hF⟩ := zgd_inv hF
                refine z_aldq hx hb hK hP 1 (zk_lt (rfl : zk 1 = 21) (by decide)) (zx_21 (rfl : zk 1 = 21)) rfl g22 dX9_year_91 ?_
                refine lv_iload_n hx hb dX9_year_92 rfl (lv_at hl 4 rfl) ?_
                refine lv_iload hx hb dX9_year_93 (lv_at hl 5 rfl) ?_
                refine lv_aload_n hx hb dX9_year_95 rfl (lv_at hl 1 rfl) ?_
                refine z_get (ci := 8) (C := RX9) (T := TX9) (N := 11) hx hb hts iX9_year_X9 hown hK hP (zk_lt (rfl : zk 0 = 8) (by decide)) (zx_8 (rfl : zk 0 = 8)) rfl 1 (by decide) kX9_year_f20 rfl (v := .ref (ad 10)) rfl dX9_year_96 ?_
                obtain ⟨r24, σ23, hC25, hF⟩ := zbd_inv hF
                refine z_calli (va_runS (As := [.ref (ad (2 + (p1 : Int32).toNatClampNeg)), .int p3, .int p4, .ref (ad 10)]) (rest := []) ⟨hx, hb, hml, hown, hts⟩ (CX8_refusal l D cI cS cP ad A n σ17 σ23 r24 (2 + (p1 : Int32).toNatClampNeg) 10 p3 p4 (zk_21s (rfl : zk 1 = 21) g22) (rfl : zk 10 = 4) hC25) (va_cwS 4 hts gX9_year_X8_refusal rfl rfl rfl (by decide +kernel) ⟨Nat.le_of_ble_eq_true rfl, Nat.le_of_ble_eq_true rfl⟩) (z_preS hN hK hP hD) rfl rfl hl.1 rfl (lv_room (Nat.le_of_ble_eq_true rfl)) dX9_year_99 ⟨Nat.zero_le _, Nat.zero_le _⟩) hS (fun H locs hP hD hS => ?_)
                refine lv_istore (lv' := [(7, .int r24), (6, .int r18), (0, .ref (ad 0)), (1, .int p1), (2, .int p2), (3, .int p3), (4, .int p4), (5, .int p5)]) hx hb dX9_year_102 hl (by decide) rfl (fun ls hl => ?_)
                refine lv_iload hx hb dX9_year_104 (lv_at hl 0 rfl) ?_
                refine lv_if_eq (tgt := 112) hx hb dX9_year_106 (by decide) (fun b26 => ?_) (fun b26 => ?_)
                · have hF := zif_t b26 hF
                  refine lv_aload_n hx hb dX9_year_112 rfl (lv_at hl 2 rfl) ?_
                  refine z_get (ci := 8) (C := RX9) (T := TX9) (N := 11) hx hb hts iX9_year_X9 hown hK hP (zk_lt (rfl : zk 0 = 8) (by decide)) (zx_8 (rfl : zk 0 = 8)) rfl 2 (by decide) kX9_year_f24 rfl (v := .ref (ad 19)) rfl dX9_year_113 ?_
                  refine lv_aload_n hx hb dX9_year_116 rfl (lv_at hl 2 rfl) ?_
                  refine z_get (ci := 8) (C := RX9) (T := TX9) (N := 11) hx hb hts iX9_year_X9 hown hK hP (zk_lt (rfl : zk 0 = 8) (by decide)) (zx_8 (rfl : zk 0 = 8)) rfl 1 (by decide) kX9_year_f20 rfl (v := .ref (ad 10)) rfl dX9_year_117 ?_
                  obtain ⟨r28, σ27, hC29, hF⟩ := zbd_inv hF
                  refine z_callv (va_runV (As := [.ref (ad 10)]) (rest := []) ⟨hx, hb, hml, hown, hts⟩ (CX4_becomeLike l D cI cS cP ad A n σ23 σ27 r28 19 10 (rfl : zk 19 = 4) (rfl : zk 10 = 4) hC29) (cwV 1 hts gX9_year_X4_becomeLike rfl rfl rfl (by decide +kernel) ⟨Nat.le_of_ble_eq_true rfl, Nat.le_of_ble_eq_true rfl⟩) (z_preV hN hK hP hD (zk_lt (rfl : zk 19 = 4) (by decide)) (zx_4 (rfl : zk 19 = 4)) rfl) rfl rfl hl.1 rfl (lv_room (Nat.le_of_ble_eq_true rfl)) dX9_year_120 ⟨Nat.zero_le _, Nat.zero_le _⟩) hS (fun H locs hP hD hS => ?_)
                  refine lv_aload_n hx hb dX9_year_123 rfl (lv_at hl 2 rfl) ?_
                  refine z_get (ci := 8) (C := RX9) (T := TX9) (N := 11) hx hb hts iX9_year_X9 hown hK hP (zk_lt (rfl : zk 0 = 8) (by decide)) (zx_8 (rfl : zk 0 = 8)) rfl 3 (by decide) kX9_year_f30 rfl (v := .ref (ad 28)) rfl dX9_year_124 ?_
                  refine lv_aload_n hx hb dX9_year_127 rfl (lv_at hl 2 rfl) ?_
                  refine z_get (ci := 8) (C := RX9) (T := TX9) (N := 11) hx hb hts iX9_year_X9 hown hK hP (zk_lt (rfl : zk 0 = 8) (by decide)) (zx_8 (rfl : zk 0 = 8)) rfl 0 (by decide) kX9_year_f13 rfl (v := .ref (ad 1)) rfl dX9_year_128 ?_
                  refine lv_iload_n hx hb dX9_year_131 rfl (lv_at hl 3 rfl) ?_
                  obtain ⟨g30, hF⟩ := zgd_inv hF
                  refine z_aldq hx hb hK hP 1 (zk_lt (rfl : zk 1 = 21) (by decide)) (zx_21 (rfl : zk 1 = 21)) rfl g30 dX9_year_132 ?_
                  refine lv_iload_n hx hb dX9_year_133 rfl (lv_at hl 5 rfl) ?_
                  refine lv_iload hx hb dX9_year_134 (lv_at hl 6 rfl) ?_
                  refine lv_aload_n hx hb dX9_year_136 rfl (lv_at hl 2 rfl) ?_
                  refine z_get (ci := 8) (C := RX9) (T := TX9) (N := 11) hx hb hts iX9_year_X9 hown hK hP (zk_lt (rfl : zk 0 = 8) (by decide)) (zx_8 (rfl : zk 0 = 8)) rfl 2 (by decide) kX9_year_f24 rfl (v := .ref (ad 19)) rfl dX9_year_137 ?_
                  obtain ⟨r32, σ31, hC33, hF⟩ := zbd_inv hF
                  refine z_callv (va_runV (As := [.ref (ad (2 + (p1 : Int32).toNatClampNeg)), .int p3, .int p4, .ref (ad 19)]) (rest := []) ⟨hx, hb, hml, hown, hts⟩ (CX8_go l D cI cS cP ad A n σ27 σ31 r32 28 (2 + (p1 : Int32).toNatClampNeg) 19 p3 p4 (rfl : zk 28 = 7) (zk_21s (rfl : zk 1 = 21) g30) (rfl : zk 19 = 4) hC33) (cwV 4 hts gX9_year_X8_go rfl rfl rfl (by decide +kernel) ⟨Nat.le_of_ble_eq_true rfl, Nat.le_of_ble_eq_true rfl⟩) (z_preV hN hK hP hD (zk_lt (rfl : zk 28 = 7) (by decide)) (zx_7 (rfl : zk 28 = 7)) rfl) rfl rfl hl.1 rfl (lv_room (Nat.le_of_ble_eq_true rfl)) dX9_year_140 ⟨Nat.zero_le _, Nat.zero_le _⟩) hS (fun H locs hP hD hS => ?_)
                  refine lv_aload_n hx hb dX9_year_143 rfl (lv_at hl 2 rfl) ?_
                  refine z_get (ci := 8) (C := RX9) (T := TX9) (N := 11) hx hb hts iX9_year_X9 hown hK hP (zk_lt (rfl : zk 0 = 8) (by decide)) (zx_8 (rfl : zk 0 = 8)) rfl 3 (by decide) kX9_year_f30 rfl (v := .ref (ad 28)) rfl dX9_year_144 ?_
                  refine lv_iload hx hb dX9_year_147 (lv_at hl 7 rfl) ?_
                  refine lv_aload_n hx hb dX9_year_149 rfl (lv_at hl 2 rfl) ?_
                  refine z_get (ci := 8) (C := RX9) (T := TX9) (N := 11) hx hb hts iX9_year_X9 hown hK hP (zk_lt (rfl : zk 0 = 8) (by decide)) (zx_8 (rfl : zk 0 = 8)) rfl 2 (by decide) kX9_year_f24 rfl (v := .ref (ad 19)) rfl dX9_year_150 ?_
                  obtain ⟨r35, σ34, hC36, hF⟩ := zbd_inv hF
                  refine z_calli (va_runV (As := [.int p5, .ref (ad 19)]) (rest := []) ⟨hx, hb, hml, hown, hts⟩ (CX8_answer l D cI cS cP ad A n σ31 σ34 r35 28 19 p5 (rfl : zk 28 = 7) (rfl : zk 19 = 4) hC36) (cwV 2 hts gX9_year_X8_answer rfl rfl rfl (by decide +kernel) ⟨Nat.le_of_ble_eq_true rfl, Nat.le_of_ble_eq_true rfl⟩) (z_preV hN hK hP hD (zk_lt (rfl : zk 28 = 7) (by decide)) (zx_7 (rfl : zk 28 = 7)) rfl) rfl rfl hl.1 rfl (lv_room (Nat.le_of_ble_eq_true rfl)) dX9_year_153 ⟨Nat.zero_le _, Nat.zero_le _⟩) hS (fun H locs hP hD hS => ?_)
                  exact z_iret hx hb hr hlocks hN hK hP hD hS hF dX9_year_156
                · have hF := zif_f b26 hF
                  refine lv_iload hx hb dX9_year_109 (lv_at hl 0 rfl) ?_
                  exact z_iret hx hb hr hlocks hN hK hP hD hS hF dX9_year_111
              · have hF := zif_t b21 hF
                refine lv_bipush (v := (-3 : Int32)) hx hb dX9_year_83 (by decide) ?_
                exact z_iret hx hb hr hlocks hN hK hP hD hS hF dX9_year_85
            · have hF := zif_f b20 hF
              refine lv_aload_n hx hb dX9_year_66 rfl (lv_at hl 1 rfl) ?_
              refine lv_iload hx hb dX9_year_67 (lv_at hl 0 rfl) ?_
              obtain ⟨r38, σ37, hC39, hF⟩ := zbd_inv hF
              refine z_calli (va_runV (As := [.int r18]) (rest := []) ⟨hx, hb, hml, hown, hts⟩ (CX9_failed l D cI cS cP ad A n σ17 σ37 r38 r18 hC39) (cwV 1 hts gX9_year_X9_failed rfl rfl rfl (by decide +kernel) ⟨Nat.le_of_ble_eq_true rfl, Nat.le_of_ble_eq_true rfl⟩) (z_preV hN hK hP hD (zk_lt (rfl : zk 0 = 8) (by decide)) (zx_8 (rfl : zk 0 = 8)) rfl) rfl rfl hl.1 rfl (lv_room (Nat.le_of_ble_eq_true rfl)) dX9_year_69 ⟨Nat.zero_le _, Nat.zero_le _⟩) hS (fun H locs hP hD hS => ?_)
              exact z_iret hx hb hr hlocks hN hK hP hD hS hF dX9_year_72
          · have hF := zif_t b15 hF
            refine lv_bipush (v := (-2 : Int32)) hx hb dX9_year_41 (by decide) ?_
            exact z_iret hx hb hr hlocks hN hK hP hD hS hF dX9_year_43
  · have hF := zif_t b5 hF
    refine lv_iconst (v := (-1 : Int32)) hx hb dX9_year_12 (by decide) ?_
    exact z_iret hx hb hr hlocks hN hK hP hD hS hF dX9_year_13
theorem kX9_register_f20 : Cond.fieldLink RX9 20 "LeastAsked" "now" "LLeastAsked$Province;" ∈ wsX9_register := by decide +kernel
theorem kX9_register_f104 : Cond.fieldLink RX9 104 "LeastAsked$Province" "count" "I" ∈ wsX9_register := by decide +kernel
theorem iX9_register_X9 : ∀ w ∈ u_ws RX9 TX9 11, w ∈ wsX9_register := fun _ h => List.mem_cons_of_mem _ (List.mem_append_left _ (List.mem_append_left _ (List.mem_append_right _ h)))
theorem iX9_register_X4 : ∀ w ∈ u_ws RX4 TX4 3, w ∈ wsX9_register := fun _ h => List.mem_cons_of_mem _ (List.mem_append_left _ (List.mem_append_right _ h))
set_option maxHeartbeats 4000000 in
set_option maxRecDepth 100000 in
theorem CX9_register (l : Launch) (D : va_G) (cI cS cP : ClassId) (ad : Nat → Nat) (A : Nat → Prop) (n : Nat) (σ σ' : zMem) (r0 : Int32) (p1 : Int32) (hF : FX9_register n σ p1 = some (r0, σ')) : Met l yX9_register wsX9_register ({ frames := 4, cells := 0, slots := 0, locals := 89 } : Room) (va_Pc [.ref (ad 0), .int p1] (zB (zx cI cS cP ad) 41 ad D (zty cI cS cP) A σ)) (va_Qi (fun r u => r = r0 ∧ u = σ') (zB (zx cI cS cP ad) 41 ad D (zty cI cS cP) A) A) 0 0 A := by
  refine Met.ofW (cc := cX9_register) (maxL := 2) (ret := (some .int)) (by decide) rfl ?_
  intro p e s m args below meth c s₁ B hml hv
  obtain ⟨rfl, hP, hK, hD, hN⟩ := hv
  have hx := B.exec
  have hb := B.bytes
  have hr := B.returns
  have hts := atoms_spec (ws := wsX9_register) B.pre
  have hown : s.vm.findClass RX9 = some m.cls := findClass_of_methodNamed B.named
  have hlocks := B.notSynchronized
  have hS : va_S A s.heap s.heap [] := va_S.rf
  have hl := lv_entry ([.ref (ad 0), .int p1]) (n := 2) (Nat.le_of_ble_eq_true rfl)
  rw [lg_entry_eq]
  generalize (lg_sl ([.ref (ad 0), .int p1]) ++ List.replicate (2 - (lg_sl ([.ref (ad 0), .int p1])).length) Slot.unset).toArray = ls at hl ⊢
  have hl : lv_has ls 2 [(0, .ref (ad 0)), (1, .int p1)] := hl
  clear B
  unfold FX9_register at hF
  refine lv_iload_n hx hb dX9_register_0 rfl (lv_at hl 1 rfl) ?_
  refine lv_bipush (v := (6 : Int32)) hx hb dX9_register_1 (by decide) ?_
  obtain ⟨r2, σ1, hC3, hF⟩ := zbd_inv hF
  refine z_calli (va_runS (As := [.int p1, .int (6 : Int32)]) (rest := []) ⟨hx, hb, hml, hown, hts⟩ (CX9_isBelow l D cI cS cP ad A n σ σ1 r2 p1 (6 : Int32) hC3) (va_cwS 2 hts gX9_register_X9_isBelow rfl rfl rfl (by decide +kernel) ⟨Nat.le_of_ble_eq_true rfl, Nat.le_of_ble_eq_true rfl⟩) (z_preS hN hK hP hD) rfl rfl hl.1 rfl (lv_room (Nat.le_of_ble_eq_true rfl)) dX9_register_3 ⟨Nat.zero_le _, Nat.zero_le _⟩) hS (fun H locs hP hD hS => ?_)
  refine lv_if_ne (tgt := 12) hx hb dX9_register_6 (by decide) (fun b4 => ?_) (fun b4 => ?_)
  · have hF := zif_f b4 hF
    refine lv_aload_n hx hb dX9_register_12 rfl (lv_at hl 0 rfl) ?_
    refine z_get (ci := 8) (C := RX9) (T := TX9) (N := 11) hx hb hts iX9_register_X9 hown hK hP (zk_lt (rfl : zk 0 = 8) (by decide)) (zx_8 (rfl : zk 0 = 8)) rfl 1 (by decide) kX9_register_f20 rfl (v := .ref (ad 10)) rfl dX9_register_13 ?_
    refine z_get (ci := 4) (C := RX4) (T := TX4) (N := 3) hx hb hts iX9_register_X4 hown hK hP (zk_lt (rfl : zk 10 = 4) (by decide)) (zx_4 (rfl : zk 10 = 4)) rfl 2 (by decide) kX9_register_f104 rfl (v := .int (σ1 10 2)) rfl dX9_register_16 ?_
    refine lv_if_ne (tgt := 25) hx hb dX9_register_19 (by decide) (fun b5 => ?_) (fun b5 => ?_)
    · have hF := zif_f b5 hF
      refine lv_aload_n hx hb dX9_register_25 rfl (lv_at hl 0 rfl) ?_
      refine z_get (ci := 8) (C := RX9) (T := TX9) (N := 11) hx hb hts iX9_register_X9 hown hK hP (zk_lt (rfl : zk 0 = 8) (by decide)) (zx_8 (rfl : zk 0 = 8)) rfl 1 (by decide) kX9_register_f20 rfl (v := .ref (ad 10)) rfl dX9_register_26 ?_
      refine lv_iload_n hx hb dX9_register_29 rfl (lv_at hl 1 rfl) ?_
      obtain ⟨r7, σ6, hC8, hF⟩ := zbd_inv hF
      refine z_calli (va_runV (As := [.int p1]) (rest := []) ⟨hx, hb, hml, hown, hts⟩ (CX4_atPlace l D cI cS cP ad A n σ1 σ6 r7 10 p1 (rfl : zk 10 = 4) hC8) (cwV 1 hts gX9_register_X4_atPlace rfl rfl rfl (by decide +kernel) ⟨Nat.le_of_ble_eq_true rfl, Nat.le_of_ble_eq_true rfl⟩) (z_preV hN hK hP hD (zk_lt (rfl : zk 10 = 4) (by decide)) (zx_4 (rfl : zk 10 = 4)) rfl) rfl rfl hl.1 rfl (lv_room (Nat.le_of_ble_eq_true rfl)) dX9_register_30 ⟨Nat.zero_le _, Nat.zero_le _⟩) hS (fun H locs hP hD hS => ?_)
      exact z_iret hx hb hr hlocks hN hK hP hD hS hF dX9_register_33
    · have hF := zif_t b5 hF
      refine lv_bipush (v := (-3 : Int32)) hx hb dX9_register_22 (by decide) ?_
      exact z_iret hx hb hr hlocks hN hK hP hD hS hF dX9_register_24
  · have hF := zif_t b4 hF
    refine lv_bipush (v := (-2 : Int32)) hx hb dX9_register_9 (by decide) ?_
    exact z_iret hx hb hr hlocks hN hK hP hD hS hF dX9_register_11
theorem kX9_turn_f20 : Cond.fieldLink RX9 20 "LeastAsked" "now" "LLeastAsked$Province;" ∈ wsX9_turn := by decide +kernel
theorem iX9_turn_X9 : ∀ w ∈ u_ws RX9 TX9 11, w ∈ wsX9_turn := fun _ h => List.mem_cons_of_mem _ (List.mem_append_left _ (List.mem_append_left _ (List.mem_append_right _ h)))
set_option maxHeartbeats 4000000 in
set_option maxRecDepth 100000 in
theorem CX9_turn (l : Launch) (D : va_G) (cI cS cP : ClassId) (ad : Nat → Nat) (A : Nat → Prop) (n : Nat) (σ σ' : zMem) (r0 : Int32) (p1 : Int32) (hF : FX9_turn n σ p1 = some (r0, σ')) : Met l yX9_turn wsX9_turn ({ frames := 3, cells := 0, slots := 0, locals := 67 } : Room) (va_Pc [.ref (ad 0), .int p1] (zB (zx cI cS cP ad) 41 ad D (zty cI cS cP) A σ)) (va_Qi (fun r u => r = r0 ∧ u = σ') (zB (zx cI cS cP ad) 41 ad D (zty cI cS cP) A) A) 0 0 A := by
  refine Met.ofW (cc := cX9_turn) (maxL := 2) (ret := (some .int)) (by decide) rfl ?_
  intro p e s m args below meth c s₁ B hml hv
  obtain ⟨rfl, hP, hK, hD, hN⟩ := hv
  have hx := B.exec
  have hb := B.bytes
  have hr := B.returns
  have hts := atoms_spec (ws := wsX9_turn) B.pre
  have hown : s.vm.findClass RX9 = some m.cls := findClass_of_methodNamed B.named
  have hlocks := B.notSynchronized
  have hS : va_S A s.heap s.heap [] := va_S.rf
  have hl := lv_entry ([.ref (ad 0), .int p1]) (n := 2) (Nat.le_of_ble_eq_true rfl)
  rw [lg_entry_eq]
  generalize (lg_sl ([.ref (ad 0), .int p1]) ++ List.replicate (2 - (lg_sl ([.ref (ad 0), .int p1])).length) Slot.unset).toArray = ls at hl ⊢
  have hl : lv_has ls 2 [(0, .ref (ad 0)), (1, .int p1)] := hl
  clear B
  unfold FX9_turn at hF
  refine lv_aload_n hx hb dX9_turn_0 rfl (lv_at hl 0 rfl) ?_
  refine z_get (ci := 8) (C := RX9) (T := TX9) (N := 11) hx hb hts iX9_turn_X9 hown hK hP (zk_lt (rfl : zk 0 = 8) (by decide)) (zx_8 (rfl : zk 0 = 8)) rfl 1 (by decide) kX9_turn_f20 rfl (v := .ref (ad 10)) rfl dX9_turn_1 ?_
  refine lv_iload_n hx hb dX9_turn_4 rfl (lv_at hl 1 rfl) ?_
  obtain ⟨r2, σ1, hC3, hF⟩ := zbd_inv hF
  refine z_calli (va_runV (As := [.int p1]) (rest := []) ⟨hx, hb, hml, hown, hts⟩ (CX4_hasPerson l D cI cS cP ad A n σ σ1 r2 10 p1 (rfl : zk 10 = 4) hC3) (cwV 1 hts gX9_turn_X4_hasPerson rfl rfl rfl (by decide +kernel) ⟨Nat.le_of_ble_eq_true rfl, Nat.le_of_ble_eq_true rfl⟩) (z_preV hN hK hP hD (zk_lt (rfl : zk 10 = 4) (by decide)) (zx_4 (rfl : zk 10 = 4)) rfl) rfl rfl hl.1 rfl (lv_room (Nat.le_of_ble_eq_true rfl)) dX9_turn_5 ⟨Nat.zero_le _, Nat.zero_le _⟩) hS (fun H locs hP hD hS => ?_)
  refine lv_if_eq (tgt := 22) hx hb dX9_turn_8 (by decide) (fun b4 => ?_) (fun b4 => ?_)
  · have hF := zif_t b4 hF
    refine lv_iconst (v := (-1 : Int32)) hx hb dX9_turn_22 (by decide) ?_
    exact z_iret hx hb hr hlocks hN hK hP hD hS hF dX9_turn_23
  · have hF := zif_f b4 hF
    refine lv_aload_n hx hb dX9_turn_11 rfl (lv_at hl 0 rfl) ?_
    refine z_get (ci := 8) (C := RX9) (T := TX9) (N := 11) hx hb hts iX9_turn_X9 hown hK hP (zk_lt (rfl : zk 0 = 8) (by decide)) (zx_8 (rfl : zk 0 = 8)) rfl 1 (by decide) kX9_turn_f20 rfl (v := .ref (ad 10)) rfl dX9_turn_12 ?_
    refine lv_iload_n hx hb dX9_turn_15 rfl (lv_at hl 1 rfl) ?_
    obtain ⟨r6, σ5, hC7, hF⟩ := zbd_inv hF
    refine z_calli (va_runV (As := [.int p1]) (rest := []) ⟨hx, hb, hml, hown, hts⟩ (CX4_questionsAheadOf l D cI cS cP ad A n σ1 σ5 r6 10 p1 (rfl : zk 10 = 4) hC7) (cwV 1 hts gX9_turn_X4_questionsAheadOf rfl rfl rfl (by decide +kernel) ⟨Nat.le_of_ble_eq_true rfl, Nat.le_of_ble_eq_true rfl⟩) (z_preV hN hK hP hD (zk_lt (rfl : zk 10 = 4) (by decide)) (zx_4 (rfl : zk 10 = 4)) rfl) rfl rfl hl.1 rfl (lv_room (Nat.le_of_ble_eq_true rfl)) dX9_turn_16 ⟨Nat.zero_le _, Nat.zero_le _⟩) hS (fun H locs hP hD hS => ?_)
    refine lv_goto (tgt := 23) hx hb dX9_turn_19 (by decide) ?_
    exact z_iret hx hb hr hlocks hN hK hP hD hS hF dX9_turn_23
theorem kX9_steer_f20 : Cond.fieldLink RX9 20 "LeastAsked" "now" "LLeastAsked$Province;" ∈ wsX9_steer := by decide +kernel
theorem iX9_steer_X9 : ∀ w ∈ u_ws RX9 TX9 11, w ∈ wsX9_steer := fun _ h => List.mem_cons_of_mem _ (List.mem_append_left _ (List.mem_append_left _ (List.mem_append_right _ h)))
set_option maxHeartbeats 4000000 in
set_option maxRecDepth 100000 in
theorem CX9_steer (l : Launch) (D : va_G) (cI cS cP : ClassId) (ad : Nat → Nat) (A : Nat → Prop) (n : Nat) (σ σ' : zMem) (r0 : Int32) (p1 : Int32) (hF : FX9_steer n σ p1 = some (r0, σ')) : Met l yX9_steer wsX9_steer ({ frames := 4, cells := 0, slots := 0, locals := 91 } : Room) (va_Pc [.ref (ad 0), .int p1] (zB (zx cI cS cP ad) 41 ad D (zty cI cS cP) A σ)) (va_Qi (fun r u => r = r0 ∧ u = σ') (zB (zx cI cS cP ad) 41 ad D (zty cI cS cP) A) A) 0 0 A := by
  refine Met.ofW (cc := cX9_steer) (maxL := 2) (ret := (some .int)) (by decide) rfl ?_
  intro p e s m args below meth c s₁ B hml hv
  obtain ⟨rfl, hP, hK, hD, hN⟩ := hv
  have hx := B.exec
  have hb := B.bytes
  have hr := B.returns
  have hts := atoms_spec (ws := wsX9_steer) B.pre
  have hown : s.vm.findClass RX9 = some m.cls := findClass_of_methodNamed B.named
  have hlocks := B.notSynchronized
  have hS : va_S A s.heap s.heap [] := va_S.rf
  have hl := lv_entry ([.ref (ad 0), .int p1]) (n := 2) (Nat.le_of_ble_eq_true rfl)
  rw [lg_entry_eq]
  generalize (lg_sl ([.ref (ad 0), .int p1]) ++ List.replicate (2 - (lg_sl ([.ref (ad 0), .int p1])).length) Slot.unset).toArray = ls at hl ⊢
  have hl : lv_has ls 2 [(0, .ref (ad 0)), (1, .int p1)] := hl
  clear B
  unfold FX9_steer at hF
  refine lv_aload_n hx hb dX9_steer_0 rfl (lv_at hl 0 rfl) ?_
  refine z_get (ci := 8) (C := RX9) (T := TX9) (N := 11) hx hb hts iX9_steer_X9 hown hK hP (zk_lt (rfl : zk 0 = 8) (by decide)) (zx_8 (rfl : zk 0 = 8)) rfl 1 (by decide) kX9_steer_f20 rfl (v := .ref (ad 10)) rfl dX9_steer_1 ?_
  refine lv_iload_n hx hb dX9_steer_4 rfl (lv_at hl 1 rfl) ?_
  obtain ⟨r2, σ1, hC3, hF⟩ := zbd_inv hF
  refine z_calli (va_runV (As := [.int p1]) (rest := []) ⟨hx, hb, hml, hown, hts⟩ (CX4_hasMatter l D cI cS cP ad A n σ σ1 r2 10 p1 (rfl : zk 10 = 4) hC3) (cwV 1 hts gX9_steer_X4_hasMatter rfl rfl rfl (by decide +kernel) ⟨Nat.le_of_ble_eq_true rfl, Nat.le_of_ble_eq_true rfl⟩) (z_preV hN hK hP hD (zk_lt (rfl : zk 10 = 4) (by decide)) (zx_4 (rfl : zk 10 = 4)) rfl) rfl rfl hl.1 rfl (lv_room (Nat.le_of_ble_eq_true rfl)) dX9_steer_5 ⟨Nat.zero_le _, Nat.zero_le _⟩) hS (fun H locs hP hD hS => ?_)
  refine lv_if_eq (tgt := 22) hx hb dX9_steer_8 (by decide) (fun b4 => ?_) (fun b4 => ?_)
  · have hF := zif_t b4 hF
    refine lv_iconst (v := (-1 : Int32)) hx hb dX9_steer_22 (by decide) ?_
    exact z_iret hx hb hr hlocks hN hK hP hD hS hF dX9_steer_23
  · have hF := zif_f b4 hF
    refine lv_aload_n hx hb dX9_steer_11 rfl (lv_at hl 0 rfl) ?_
    refine z_get (ci := 8) (C := RX9) (T := TX9) (N := 11) hx hb hts iX9_steer_X9 hown hK hP (zk_lt (rfl : zk 0 = 8) (by decide)) (zx_8 (rfl : zk 0 = 8)) rfl 1 (by decide) kX9_steer_f20 rfl (v := .ref (ad 10)) rfl dX9_steer_12 ?_
    refine lv_iload_n hx hb dX9_steer_15 rfl (lv_at hl 1 rfl) ?_
    obtain ⟨r6, σ5, hC7, hF⟩ := zbd_inv hF
    refine z_calli (va_runV (As := [.int p1]) (rest := []) ⟨hx, hb, hml, hown, hts⟩ (CX4_feintsTillKnown l D cI cS cP ad A n σ1 σ5 r6 10 p1 (rfl : zk 10 = 4) hC7) (cwV 1 hts gX9_steer_X4_feintsTillKnown rfl rfl rfl (by decide +kernel) ⟨Nat.le_of_ble_eq_true rfl, Nat.le_of_ble_eq_true rfl⟩) (z_preV hN hK hP hD (zk_lt (rfl : zk 10 = 4) (by decide)) (zx_4 (rfl : zk 10 = 4)) rfl) rfl rfl hl.1 rfl (lv_room (Nat.le_of_ble_eq_true rfl)) dX9_steer_16 ⟨Nat.zero_le _, Nat.zero_le _⟩) hS (fun H locs hP hD hS => ?_)
    refine lv_goto (tgt := 23) hx hb dX9_steer_19 (by decide) ?_
    exact z_iret hx hb hr hlocks hN hK hP hD hS hF dX9_steer_23
theorem kX9_even_f20 : Cond.fieldLink RX9 20 "LeastAsked" "now" "LLeastAsked$Province;" ∈ wsX9_even := by decide +kernel
theorem kX9_even_f104 : Cond.fieldLink RX9 104 "LeastAsked$Province" "count" "I" ∈ wsX9_even := by decide +kernel
theorem iX9_even_X9 : ∀ w ∈ u_ws RX9 TX9 11, w ∈ wsX9_even := fun _ h => List.mem_cons_of_mem _ (List.mem_append_left _ (List.mem_append_left _ (List.mem_append_right _ h)))
theorem iX9_even_X4 : ∀ w ∈ u_ws RX4 TX4 3, w ∈ wsX9_even := fun _ h => List.mem_cons_of_mem _ (List.mem_append_left _ (List.mem_append_right _ h))
set_option maxHeartbeats 4000000 in
set_option maxRecDepth 100000 in
theorem CX9_even (l : Launch) (D : va_G) (cI cS cP : ClassId) (ad : Nat → Nat) (A : Nat → Prop) (n : Nat) (σ σ' : zMem) (r0 : Int32) (hF : FX9_even n σ = some (r0, σ')) : Met l yX9_even wsX9_even ({ frames := 2, cells := 0, slots := 0, locals := 44 } : Room) (va_Pc [.ref (ad 0)] (zB (zx cI cS cP ad) 41 ad D (zty cI cS cP) A σ)) (va_Qi (fun r u => r = r0 ∧ u = σ') (zB (zx cI cS cP ad) 41 ad D (zty cI cS cP) A) A) 0 0 A := by
  refine Met.ofW (cc := cX9_even) (maxL := 1) (ret := (some .int)) (by decide) rfl ?_
  intro p e s m args below meth c s₁ B hml hv
  obtain ⟨rfl, hP, hK, hD, hN⟩ := hv
  have hx := B.exec
  have hb := B.bytes
  have hr := B.returns
  have hts := atoms_spec (ws := wsX9_even) B.pre
  have hown : s.vm.findClass RX9 = some m.cls := findClass_of_methodNamed B.named
  have hlocks := B.notSynchronized
  have hS : va_S A s.heap s.heap [] := va_S.rf
  have hl := lv_entry ([.ref (ad 0)]) (n := 1) (Nat.le_of_ble_eq_true rfl)
  rw [lg_entry_eq]
  generalize (lg_sl ([.ref (ad 0)]) ++ List.replicate (1 - (lg_sl ([.ref (ad 0)])).length) Slot.unset).toArray = ls at hl ⊢
  have hl : lv_has ls 1 [(0, .ref (ad 0))] := hl
  clear B
  unfold FX9_even at hF
  refine lv_aload_n hx hb dX9_even_0 rfl (lv_at hl 0 rfl) ?_
  refine z_get (ci := 8) (C := RX9) (T := TX9) (N := 11) hx hb hts iX9_even_X9 hown hK hP (zk_lt (rfl : zk 0 = 8) (by decide)) (zx_8 (rfl : zk 0 = 8)) rfl 1 (by decide) kX9_even_f20 rfl (v := .ref (ad 10)) rfl dX9_even_1 ?_
  refine z_get (ci := 4) (C := RX4) (T := TX4) (N := 3) hx hb hts iX9_even_X4 hown hK hP (zk_lt (rfl : zk 10 = 4) (by decide)) (zx_4 (rfl : zk 10 = 4)) rfl 2 (by decide) kX9_even_f104 rfl (v := .int (σ 10 2)) rfl dX9_even_4 ?_
  refine lv_if_ne (tgt := 15) hx hb dX9_even_7 (by decide) (fun b1 => ?_) (fun b1 => ?_)
  · have hF := zif_f b1 hF
    refine lv_aload_n hx hb dX9_even_15 rfl (lv_at hl 0 rfl) ?_
    refine z_get (ci := 8) (C := RX9) (T := TX9) (N := 11) hx hb hts iX9_even_X9 hown hK hP (zk_lt (rfl : zk 0 = 8) (by decide)) (zx_8 (rfl : zk 0 = 8)) rfl 1 (by decide) kX9_even_f20 rfl (v := .ref (ad 10)) rfl dX9_even_16 ?_
    obtain ⟨r3, σ2, hC4, hF⟩ := zbd_inv hF
    refine z_calli (va_runV (As := []) (rest := []) ⟨hx, hb, hml, hown, hts⟩ (CX4_questionsTillEven l D cI cS cP ad A n σ σ2 r3 10 (rfl : zk 10 = 4) hC4) (cwV 0 hts gX9_even_X4_questionsTillEven rfl rfl rfl (by decide +kernel) ⟨Nat.le_of_ble_eq_true rfl, Nat.le_of_ble_eq_true rfl⟩) (z_preV hN hK hP hD (zk_lt (rfl : zk 10 = 4) (by decide)) (zx_4 (rfl : zk 10 = 4)) rfl) rfl rfl hl.1 rfl (lv_room (Nat.le_of_ble_eq_true rfl)) dX9_even_19 ⟨Nat.zero_le _, Nat.zero_le _⟩) hS (fun H locs hP hD hS => ?_)
    exact z_iret hx hb hr hlocks hN hK hP hD hS hF dX9_even_22
  · have hF := zif_t b1 hF
    refine lv_bipush (v := (-3 : Int32)) hx hb dX9_even_10 (by decide) ?_
    refine lv_goto (tgt := 22) hx hb dX9_even_12 (by decide) ?_
    exact z_iret hx hb hr hlocks hN hK hP hD hS hF dX9_even_22
theorem kX9_plan_f24 : Cond.fieldLink RX9 24 "LeastAsked" "trial" "LLeastAsked$Province;" ∈ wsX9_plan := by decide +kernel
theorem kX9_plan_f20 : Cond.fieldLink RX9 20 "LeastAsked" "now" "LLeastAsked$Province;" ∈ wsX9_plan := by decide +kernel
theorem kX9_plan_f37 : Cond.fieldLink RX9 37 "LeastAsked" "planner" "LLeastAsked$Planner;" ∈ wsX9_plan := by decide +kernel
theorem kX9_plan_f13 : Cond.fieldLink RX9 13 "LeastAsked" "sheets" "[LLeastAsked$Sheet;" ∈ wsX9_plan := by decide +kernel
theorem kX9_plan_f184 : Cond.fieldLink RX9 184 "LeastAsked$Sheet" "cells" "[I" ∈ wsX9_plan := by decide +kernel
theorem kX9_plan_f69 : Cond.fieldLink RX9 69 "LeastAsked" "lastFault" "I" ∈ wsX9_plan := by decide +kernel
theorem kX9_plan_f104 : Cond.fieldLink RX9 104 "LeastAsked$Province" "count" "I" ∈ wsX9_plan := by decide +kernel
theorem iX9_plan_X9 : ∀ w ∈ u_ws RX9 TX9 11, w ∈ wsX9_plan := fun _ h => List.mem_cons_of_mem _ (List.mem_append_left _ (List.mem_append_left _ (List.mem_append_left _ (List.mem_append_left _ (List.mem_append_right _ h)))))
theorem iX9_plan_X6 : ∀ w ∈ u_ws RX6 TX6 4, w ∈ wsX9_plan := fun _ h => List.mem_cons_of_mem _ (List.mem_append_left _ (List.mem_append_left _ (List.mem_append_right _ h)))
theorem iX9_plan_X4 : ∀ w ∈ u_ws RX4 TX4 3, w ∈ wsX9_plan := fun _ h => List.mem_cons_of_mem _ (List.mem_append_left _ (List.mem_append_left _ (List.mem_append_left _ (List.mem_append_right _ h))))
set_option maxHeartbeats 4000000 in
set_option maxRecDepth 100000 in
theorem CX9_plan (l : Launch) (D : va_G) (cI cS cP : ClassId) (ad : Nat → Nat) (A : Nat → Prop) (n : Nat) (σ σ' : zMem) (r0 : Int32) (p1 : Int32) (p2 : Int32) (p3 : Int32) (p4 : Int32) (p5 : Int32) (hF : FX9_plan n σ p1 p2 p3 p4 p5 = some (r0, σ')) : Met l yX9_plan wsX9_plan ({ frames := 5, cells := 0, slots := 0, locals := 121 } : Room) (va_Pc [.ref (ad 0), .int p1, .int p2, .int p3, .int p4, .int p5] (zB (zx cI cS cP ad) 41 ad D (zty cI cS cP) A σ)) (va_Qi (fun r u => r = r0 ∧ u = σ') (zB (zx cI cS cP ad) 41 ad D (zty cI cS cP) A) A) 0 0 A := by
  refine Met.ofW (cc := cX9_plan) (maxL := 8) (ret := (some .int)) (by decide) rfl ?_
  intro p e s m args below meth c s₁ B hml hv
  obtain ⟨rfl, hP, hK, hD, hN⟩ := hv
  have hx := B.exec
  have hb := B.bytes
  have hr := B.returns
  have hts := atoms_spec (ws := wsX9_plan) B.pre
  have hown : s.vm.findClass RX9 = some m.cls := findClass_of_methodNamed B.named
  have hlocks := B.notSynchronized
  have hS : va_S A s.heap s.heap [] := va_S.rf
  have hl := lv_entry ([.ref (ad 0), .int p1, .int p2, .int p3, .int p4, .int p5]) (n := 8) (Nat.le_of_ble_eq_true rfl)
  rw [lg_entry_eq]
  generalize (lg_sl ([.ref (ad 0), .int p1, .int p2, .int p3, .int p4, .int p5]) ++ List.replicate (8 - (lg_sl ([.ref (ad 0), .int p1, .int p2, .int p3, .int p4, .int p5])).length) Slot.unset).toArray = ls at hl ⊢
  have hl : lv_has ls 8 [(0, .ref (ad 0)), (1, .int p1), (2, .int p2), (3, .int p3), (4, .int p4), (5, .int p5)] := hl
  clear B
  have hB92 : ∀ (f92 : Nat) (σ : zMem) (l1 : Int32) (l2 : Int32) (l3 : Int32) (l4 : Int32) (l5 : Int32) (l6 : Int32) (l7 : Int32), ∀ (H : Heap) (locs : List Loc) (ls : Array Slot), zlp (LX9_plan_92 n) f92 (σ, l1, l2, l3, l4, l5, l6, l7) = some (r0, σ') → va_P D vwCl (zW (zx cI cS cP ad) 41 ad σ) H → va_D A (zW (zx cI cS cP ad) 41 ad σ) → va_S A s.heap H locs → lv_has ls 8 [(0, .ref (ad 0)), (1, .int l1), (2, .int l2), (3, .int l3), (4, .int l4), (5, .int l5), (6, .int l6), (7, .int l7)] → W p l e (headSpec wsX9_plan ({ frames := 5, cells := 0, slots := 0, locals := 121 } : Room)).room s m ([.ref (ad 0), .int p1, .int p2, .int p3, .int p4, .int p5] : List Value).toArray below meth c H locs 0 0 (MQ below (va_Qi (fun r u => r = r0 ∧ u = σ') (zB (zx cI cS cP ad) 41 ad D (zty cI cS cP) A) A) ([.ref (ad 0), .int p1, .int p2, .int p3, .int p4, .int p5] : List Value).toArray s 0 0 A) (F0 m 92 ls []) := by
    intro f92
    induction f92 with
    | zero => intro σ l1 l2 l3 l4 l5 l6 l7 H locs ls hF hP hD hS hl; exact (zlp_0 hF).elim
    | succ f92 ih92 =>
      intro σ l1 l2 l3 l4 l5 l6 l7 H locs ls hF hP hD hS hl
      have hF : LBX9_plan_92 n   (zlp (LX9_plan_92 n) f92) σ l1 l2 l3 l4 l5 l6 l7 = some (r0, σ') := hF
      unfold LBX9_plan_92 at hF
      refine lv_iload hx hb dX9_plan_92 (lv_at hl 7 rfl) ?_
      refine lv_iload hx hb dX9_plan_94 (lv_at hl 4 rfl) ?_
      refine lv_icmp_ge (tgt := 131) hx hb dX9_plan_96 (by decide) (fun b1 => ?_) (fun b1 => ?_)
      · have hF := zif_t b1 hF
        refine lv_aload_n hx hb dX9_plan_131 rfl (lv_at hl 0 rfl) ?_
        refine z_get (ci := 8) (C := RX9) (T := TX9) (N := 11) hx hb hts iX9_plan_X9 hown hK hP (zk_lt (rfl : zk 0 = 8) (by decide)) (zx_8 (rfl : zk 0 = 8)) rfl 2 (by decide) kX9_plan_f24 rfl (v := .ref (ad 19)) rfl dX9_plan_132 ?_
        refine lv_aload_n hx hb dX9_plan_135 rfl (lv_at hl 0 rfl) ?_
        refine z_get (ci := 8) (C := RX9) (T := TX9) (N := 11) hx hb hts iX9_plan_X9 hown hK hP (zk_lt (rfl : zk 0 = 8) (by decide)) (zx_8 (rfl : zk 0 = 8)) rfl 1 (by decide) kX9_plan_f20 rfl (v := .ref (ad 10)) rfl dX9_plan_136 ?_
        obtain ⟨r3, σ2, hC4, hF⟩ := zbd_inv hF
        refine z_callv (va_runV (As := [.ref (ad 10)]) (rest := []) ⟨hx, hb, hml, hown, hts⟩ (CX4_becomeLike l D cI cS cP ad A n σ σ2 r3 19 10 (rfl : zk 19 = 4) (rfl : zk 10 = 4) hC4) (cwV 1 hts gX9_plan_X4_becomeLike rfl rfl rfl (by decide +kernel) ⟨Nat.le_of_ble_eq_true rfl, Nat.le_of_ble_eq_true rfl⟩) (z_preV hN hK hP hD (zk_lt (rfl : zk 19 = 4) (by decide)) (zx_4 (rfl : zk 19 = 4)) rfl) rfl rfl hl.1 rfl (lv_room (Nat.le_of_ble_eq_true rfl)) dX9_plan_139 ⟨Nat.zero_le _, Nat.zero_le _⟩) hS (fun H locs hP hD hS => ?_)
        refine lv_aload_n hx hb dX9_plan_142 rfl (lv_at hl 0 rfl) ?_
        refine z_get (ci := 8) (C := RX9) (T := TX9) (N := 11) hx hb hts iX9_plan_X9 hown hK hP (zk_lt (rfl : zk 0 = 8) (by decide)) (zx_8 (rfl : zk 0 = 8)) rfl 4 (by decide) kX9_plan_f37 rfl (v := .ref (ad 29)) rfl dX9_plan_143 ?_
        refine lv_aload_n hx hb dX9_plan_146 rfl (lv_at hl 0 rfl) ?_
        refine z_get (ci := 8) (C := RX9) (T := TX9) (N := 11) hx hb hts iX9_plan_X9 hown hK hP (zk_lt (rfl : zk 0 = 8) (by decide)) (zx_8 (rfl : zk 0 = 8)) rfl 0 (by decide) kX9_plan_f13 rfl (v := .ref (ad 1)) rfl dX9_plan_147 ?_
        refine lv_iload_n hx hb dX9_plan_150 rfl (lv_at hl 1 rfl) ?_
        obtain ⟨g5, hF⟩ := zgd_inv hF
        refine z_aldq hx hb hK hP 1 (zk_lt (rfl : zk 1 = 21) (by decide)) (zx_21 (rfl : zk 1 = 21)) rfl g5 dX9_plan_151 ?_
        refine lv_iload_n hx hb dX9_plan_152 rfl (lv_at hl 3 rfl) ?_
        refine lv_iload hx hb dX9_plan_153 (lv_at hl 4 rfl) ?_
        refine lv_aload_n hx hb dX9_plan_155 rfl (lv_at hl 0 rfl) ?_
        refine z_get (ci := 8) (C := RX9) (T := TX9) (N := 11) hx hb hts iX9_plan_X9 hown hK hP (zk_lt (rfl : zk 0 = 8) (by decide)) (zx_8 (rfl : zk 0 = 8)) rfl 2 (by decide) kX9_plan_f24 rfl (v := .ref (ad 19)) rfl dX9_plan_156 ?_
        obtain ⟨r7, σ6, hC8, hF⟩ := zbd_inv hF
        refine z_callv (va_runV (As := [.ref (ad (2 + (l1 : Int32).toNatClampNeg)), .int l3, .int l4, .ref (ad 19)]) (rest := []) ⟨hx, hb, hml, hown, hts⟩ (CX3_make l D cI cS cP ad A n σ2 σ6 r7 29 (2 + (l1 : Int32).toNatClampNeg) 19 l3 l4 (rfl : zk 29 = 3) (zk_21s (rfl : zk 1 = 21) g5) (rfl : zk 19 = 4) hC8) (cwV 4 hts gX9_plan_X3_make rfl rfl rfl (by decide +kernel) ⟨Nat.le_of_ble_eq_true rfl, Nat.le_of_ble_eq_true rfl⟩) (z_preV hN hK hP hD (zk_lt (rfl : zk 29 = 3) (by decide)) (zx_3 (rfl : zk 29 = 3)) rfl) rfl rfl hl.1 rfl (lv_room (Nat.le_of_ble_eq_true rfl)) dX9_plan_159 ⟨Nat.zero_le _, Nat.zero_le _⟩) hS (fun H locs hP hD hS => ?_)
        refine lv_aload_n hx hb dX9_plan_162 rfl (lv_at hl 0 rfl) ?_
        refine z_get (ci := 8) (C := RX9) (T := TX9) (N := 11) hx hb hts iX9_plan_X9 hown hK hP (zk_lt (rfl : zk 0 = 8) (by decide)) (zx_8 (rfl : zk 0 = 8)) rfl 4 (by decide) kX9_plan_f37 rfl (v := .ref (ad 29)) rfl dX9_plan_163 ?_
        refine lv_iload hx hb dX9_plan_166 (lv_at hl 5 rfl) ?_
        obtain ⟨r10, σ9, hC11, hF⟩ := zbd_inv hF
        refine z_calli (va_runV (As := [.int l5]) (rest := []) ⟨hx, hb, hml, hown, hts⟩ (CX3_answer l D cI cS cP ad A n σ6 σ9 r10 29 l5 (rfl : zk 29 = 3) hC11) (cwV 1 hts gX9_plan_X3_answer rfl rfl rfl (by decide +kernel) ⟨Nat.le_of_ble_eq_true rfl, Nat.le_of_ble_eq_true rfl⟩) (z_preV hN hK hP hD (zk_lt (rfl : zk 29 = 3) (by decide)) (zx_3 (rfl : zk 29 = 3)) rfl) rfl rfl hl.1 rfl (lv_room (Nat.le_of_ble_eq_true rfl)) dX9_plan_168 ⟨Nat.zero_le _, Nat.zero_le _⟩) hS (fun H locs hP hD hS => ?_)
        exact z_iret hx hb hr hlocks hN hK hP hD hS hF dX9_plan_171
      · have hF := zif_f b1 hF
        refine lv_aload_n hx hb dX9_plan_99 rfl (lv_at hl 0 rfl) ?_
        refine z_get (ci := 8) (C := RX9) (T := TX9) (N := 11) hx hb hts iX9_plan_X9 hown hK hP (zk_lt (rfl : zk 0 = 8) (by decide)) (zx_8 (rfl : zk 0 = 8)) rfl 1 (by decide) kX9_plan_f20 rfl (v := .ref (ad 10)) rfl dX9_plan_100 ?_
        refine lv_aload_n hx hb dX9_plan_103 rfl (lv_at hl 0 rfl) ?_
        refine z_get (ci := 8) (C := RX9) (T := TX9) (N := 11) hx hb hts iX9_plan_X9 hown hK hP (zk_lt (rfl : zk 0 = 8) (by decide)) (zx_8 (rfl : zk 0 = 8)) rfl 0 (by decide) kX9_plan_f13 rfl (v := .ref (ad 1)) rfl dX9_plan_104 ?_
        refine lv_iload_n hx hb dX9_plan_107 rfl (lv_at hl 1 rfl) ?_
        obtain ⟨g12, hF⟩ := zgd_inv hF
        refine z_aldq hx hb hK hP 1 (zk_lt (rfl : zk 1 = 21) (by decide)) (zx_21 (rfl : zk 1 = 21)) rfl g12 dX9_plan_108 ?_
        refine z_get (ci := 6) (C := RX6) (T := TX6) (N := 4) hx hb hts iX9_plan_X6 hown hK hP (zk_lt (zk_21s (rfl : zk 1 = 21) g12) (by decide)) (zx_6 (zk_21s (rfl : zk 1 = 21) g12)) rfl 0 (by decide) kX9_plan_f184 rfl (v := .ref (ad ((2 + (l1 : Int32).toNatClampNeg) + 4))) rfl dX9_plan_109 ?_
        refine lv_iload_n hx hb dX9_plan_112 rfl (lv_at hl 3 rfl) ?_
        refine lv_iload hx hb dX9_plan_113 (lv_at hl 7 rfl) ?_
        refine lv_iadd hx hb dX9_plan_115 ?_
        obtain ⟨g13, hF⟩ := zgd_inv hF
        refine z_iald hx hb hK hP (zk_lt (zk_6c (zk_21s (rfl : zk 1 = 21) g12)) (by decide)) (zx_160 (zk_6c (zk_21s (rfl : zk 1 = 21) g12))) rfl g13 dX9_plan_116 ?_
        obtain ⟨r15, σ14, hC16, hF⟩ := zbd_inv hF
        refine z_calli (va_runV (As := [.int (σ ((2 + (l1 : Int32).toNatClampNeg) + 4) ((l3 + l7) : Int32).toNatClampNeg)]) (rest := []) ⟨hx, hb, hml, hown, hts⟩ (CX4_hasMatter l D cI cS cP ad A n σ σ14 r15 10 (σ ((2 + (l1 : Int32).toNatClampNeg) + 4) ((l3 + l7) : Int32).toNatClampNeg) (rfl : zk 10 = 4) hC16) (cwV 1 hts gX9_plan_X4_hasMatter rfl rfl rfl (by decide +kernel) ⟨Nat.le_of_ble_eq_true rfl, Nat.le_of_ble_eq_true rfl⟩) (z_preV hN hK hP hD (zk_lt (rfl : zk 10 = 4) (by decide)) (zx_4 (rfl : zk 10 = 4)) rfl) rfl rfl hl.1 rfl (lv_room (Nat.le_of_ble_eq_true rfl)) dX9_plan_117 ⟨Nat.zero_le _, Nat.zero_le _⟩) hS (fun H locs hP hD hS => ?_)
        refine lv_if_ne (tgt := 125) hx hb dX9_plan_120 (by decide) (fun b17 => ?_) (fun b17 => ?_)
        · have hF := zif_f b17 hF
          refine lv_iinc (v := (l7 + (1 : Int32))) (lv' := [(7, .int (l7 + (1 : Int32))), (0, .ref (ad 0)), (1, .int l1), (2, .int l2), (3, .int l3), (4, .int l4), (5, .int l5), (6, .int l6)]) hx hb dX9_plan_125 hl (k := 7) rfl rfl (by decide) rfl (fun ls hl => ?_)
          refine lv_goto (tgt := 92) hx hb dX9_plan_128 (by decide) ?_
          exact ih92 σ14 l1 l2 l3 l4 l5 l6 (l7 + (1 : Int32)) _ _ _ hF hP hD hS (lv_sub hl [1, 2, 3, 4, 5, 6, 7, 0] rfl)
        · have hF := zif_t b17 hF
          refine lv_iconst (v := (-1 : Int32)) hx hb dX9_plan_123 (by decide) ?_
          exact z_iret hx hb hr hlocks hN hK hP hD hS hF dX9_plan_124
  unfold FX9_plan at hF
  refine lv_aload_n hx hb dX9_plan_0 rfl (lv_at hl 0 rfl) ?_
  refine lv_iconst (v := (0 : Int32)) hx hb dX9_plan_1 (by decide) ?_
  obtain ⟨σ18, eσ18, hF⟩ := zlet_inv hF
  refine z_put (ci := 8) (C := RX9) (T := TX9) (N := 11) hx hb hts iX9_plan_X9 tyX9 tyX9_ok nmX9 hown hK hP hD hS (zk_lt (rfl : zk 0 = 8) (by decide)) (zx_8 (rfl : zk 0 = 8)) rfl 10 (by decide) kX9_plan_f69 rfl rfl rfl rfl (Nat.le_of_ble_eq_true rfl) (zx_8 (rfl : zk 0 = 8)) dX9_plan_2 (fun H locs hP hD hS => ?_)
  have hP : va_P D vwCl (zW (zx cI cS cP ad) 41 ad σ18) H := by rw [eσ18]; exact hP
  have hD : va_D A (zW (zx cI cS cP ad) 41 ad σ18) := by rw [eσ18]; exact hD
  refine lv_iload_n hx hb dX9_plan_5 rfl (lv_at hl 1 rfl) ?_
  obtain ⟨r20, σ19, hC21, hF⟩ := zbd_inv hF
  refine z_calli (va_runS (As := [.int p1]) (rest := []) ⟨hx, hb, hml, hown, hts⟩ (CX9_isSheet l D cI cS cP ad A n σ18 σ19 r20 p1 hC21) (va_cwS 1 hts gX9_plan_X9_isSheet rfl rfl rfl (by decide +kernel) ⟨Nat.le_of_ble_eq_true rfl, Nat.le_of_ble_eq_true rfl⟩) (z_preS hN hK hP hD) rfl rfl hl.1 rfl (lv_room (Nat.le_of_ble_eq_true rfl)) dX9_plan_6 ⟨Nat.zero_le _, Nat.zero_le _⟩) hS (fun H locs hP hD hS => ?_)
  refine lv_if_ne (tgt := 14) hx hb dX9_plan_9 (by decide) (fun b22 => ?_) (fun b22 => ?_)
  · have hF := zif_f b22 hF
    refine lv_iload_n hx hb dX9_plan_14 rfl (lv_at hl 2 rfl) ?_
    obtain ⟨r24, σ23, hC25, hF⟩ := zbd_inv hF
    refine z_calli (va_runS (As := [.int p2]) (rest := []) ⟨hx, hb, hml, hown, hts⟩ (CX9_isLane l D cI cS cP ad A n σ19 σ23 r24 p2 hC25) (va_cwS 1 hts gX9_plan_X9_isLane rfl rfl rfl (by decide +kernel) ⟨Nat.le_of_ble_eq_true rfl, Nat.le_of_ble_eq_true rfl⟩) (z_preS hN hK hP hD) rfl rfl hl.1 rfl (lv_room (Nat.le_of_ble_eq_true rfl)) dX9_plan_15 ⟨Nat.zero_le _, Nat.zero_le _⟩) hS (fun H locs hP hD hS => ?_)
    refine lv_if_eq (tgt := 46) hx hb dX9_plan_18 (by decide) (fun b26 => ?_) (fun b26 => ?_)
    · have hF := zif_t b26 hF
      refine lv_bipush (v := (-2 : Int32)) hx hb dX9_plan_46 (by decide) ?_
      exact z_iret hx hb hr hlocks hN hK hP hD hS hF dX9_plan_48
    · have hF := zif_f b26 hF
      refine lv_iload hx hb dX9_plan_21 (lv_at hl 4 rfl) ?_
      refine lv_if_lt (tgt := 46) hx hb dX9_plan_23 (by decide) (fun b27 => ?_) (fun b27 => ?_)
      · have hF := zif_t b27 hF
        refine lv_bipush (v := (-2 : Int32)) hx hb dX9_plan_46 (by decide) ?_
        exact z_iret hx hb hr hlocks hN hK hP hD hS hF dX9_plan_48
      · have hF := zif_f b27 hF
        refine lv_iload hx hb dX9_plan_26 (lv_at hl 4 rfl) ?_
        refine lv_bipush (v := (7 : Int32)) hx hb dX9_plan_28 (by decide) ?_
        refine lv_icmp_gt (tgt := 46) hx hb dX9_plan_30 (by decide) (fun b28 => ?_) (fun b28 => ?_)
        · have hF := zif_t b28 hF
          refine lv_bipush (v := (-2 : Int32)) hx hb dX9_plan_46 (by decide) ?_
          exact z_iret hx hb hr hlocks hN hK hP hD hS hF dX9_plan_48
        · have hF := zif_f b28 hF
          refine lv_iload hx hb dX9_plan_33 (lv_at hl 5 rfl) ?_
          refine lv_iconst (v := (-1 : Int32)) hx hb dX9_plan_35 (by decide) ?_
          refine lv_icmp_lt (tgt := 46) hx hb dX9_plan_36 (by decide) (fun b29 => ?_) (fun b29 => ?_)
          · have hF := zif_t b29 hF
            refine lv_bipush (v := (-2 : Int32)) hx hb dX9_plan_46 (by decide) ?_
            exact z_iret hx hb hr hlocks hN hK hP hD hS hF dX9_plan_48
          · have hF := zif_f b29 hF
            refine lv_iload hx hb dX9_plan_39 (lv_at hl 5 rfl) ?_
            refine lv_bipush (v := (7 : Int32)) hx hb dX9_plan_41 (by decide) ?_
            refine lv_icmp_lt (tgt := 49) hx hb dX9_plan_43 (by decide) (fun b30 => ?_) (fun b30 => ?_)
            · have hF := zif_t b30 hF
              refine lv_aload_n hx hb dX9_plan_49 rfl (lv_at hl 0 rfl) ?_
              refine z_get (ci := 8) (C := RX9) (T := TX9) (N := 11) hx hb hts iX9_plan_X9 hown hK hP (zk_lt (rfl : zk 0 = 8) (by decide)) (zx_8 (rfl : zk 0 = 8)) rfl 0 (by decide) kX9_plan_f13 rfl (v := .ref (ad 1)) rfl dX9_plan_50 ?_
              refine lv_iload_n hx hb dX9_plan_53 rfl (lv_at hl 1 rfl) ?_
              obtain ⟨g31, hF⟩ := zgd_inv hF
              refine z_aldq hx hb hK hP 1 (zk_lt (rfl : zk 1 = 21) (by decide)) (zx_21 (rfl : zk 1 = 21)) rfl g31 dX9_plan_54 ?_
              refine lv_iload_n hx hb dX9_plan_55 rfl (lv_at hl 2 rfl) ?_
              refine lv_iload_n hx hb dX9_plan_56 rfl (lv_at hl 3 rfl) ?_
              refine lv_iload hx hb dX9_plan_57 (lv_at hl 4 rfl) ?_
              obtain ⟨r33, σ32, hC34, hF⟩ := zbd_inv hF
              refine z_calli (va_runS (As := [.ref (ad (2 + (p1 : Int32).toNatClampNeg)), .int p2, .int p3, .int p4]) (rest := []) ⟨hx, hb, hml, hown, hts⟩ (CX9_rowFault l D cI cS cP ad A n σ23 σ32 r33 (2 + (p1 : Int32).toNatClampNeg) p2 p3 p4 (zk_21s (rfl : zk 1 = 21) g31) hC34) (va_cwS 4 hts gX9_plan_X9_rowFault rfl rfl rfl (by decide +kernel) ⟨Nat.le_of_ble_eq_true rfl, Nat.le_of_ble_eq_true rfl⟩) (z_preS hN hK hP hD) rfl rfl hl.1 rfl (lv_room (Nat.le_of_ble_eq_true rfl)) dX9_plan_59 ⟨Nat.zero_le _, Nat.zero_le _⟩) hS (fun H locs hP hD hS => ?_)
              refine lv_istore (lv' := [(6, .int r33), (0, .ref (ad 0)), (1, .int p1), (2, .int p2), (3, .int p3), (4, .int p4), (5, .int p5)]) hx hb dX9_plan_62 hl (by decide) rfl (fun ls hl => ?_)
              refine lv_iload hx hb dX9_plan_64 (lv_at hl 0 rfl) ?_
              refine lv_if_eq (tgt := 76) hx hb dX9_plan_66 (by decide) (fun b35 => ?_) (fun b35 => ?_)
              · have hF := zif_t b35 hF
                refine lv_aload_n hx hb dX9_plan_76 rfl (lv_at hl 1 rfl) ?_
                refine z_get (ci := 8) (C := RX9) (T := TX9) (N := 11) hx hb hts iX9_plan_X9 hown hK hP (zk_lt (rfl : zk 0 = 8) (by decide)) (zx_8 (rfl : zk 0 = 8)) rfl 1 (by decide) kX9_plan_f20 rfl (v := .ref (ad 10)) rfl dX9_plan_77 ?_
                refine z_get (ci := 4) (C := RX4) (T := TX4) (N := 3) hx hb hts iX9_plan_X4 hown hK hP (zk_lt (rfl : zk 10 = 4) (by decide)) (zx_4 (rfl : zk 10 = 4)) rfl 2 (by decide) kX9_plan_f104 rfl (v := .int (σ32 10 2)) rfl dX9_plan_80 ?_
                refine lv_if_ne (tgt := 89) hx hb dX9_plan_83 (by decide) (fun b36 => ?_) (fun b36 => ?_)
                · have hF := zif_f b36 hF
                  refine lv_iconst (v := (0 : Int32)) hx hb dX9_plan_89 (by decide) ?_
                  refine lv_istore (lv' := [(7, .int (0 : Int32)), (6, .int r33), (0, .ref (ad 0)), (1, .int p1), (2, .int p2), (3, .int p3), (4, .int p4), (5, .int p5)]) hx hb dX9_plan_90 hl (by decide) rfl (fun ls hl => ?_)
                  exact hB92 n σ32 p1 p2 p3 p4 p5 r33 (0 : Int32) _ _ _ hF hP hD hS (lv_sub hl [2, 3, 4, 5, 6, 7, 1, 0] rfl)
                · have hF := zif_t b36 hF
                  refine lv_bipush (v := (-3 : Int32)) hx hb dX9_plan_86 (by decide) ?_
                  exact z_iret hx hb hr hlocks hN hK hP hD hS hF dX9_plan_88
              · have hF := zif_f b35 hF
                refine lv_aload_n hx hb dX9_plan_69 rfl (lv_at hl 1 rfl) ?_
                refine lv_iload hx hb dX9_plan_70 (lv_at hl 0 rfl) ?_
                obtain ⟨r38, σ37, hC39, hF⟩ := zbd_inv hF
                refine z_calli (va_runV (As := [.int r33]) (rest := []) ⟨hx, hb, hml, hown, hts⟩ (CX9_failed l D cI cS cP ad A n σ32 σ37 r38 r33 hC39) (cwV 1 hts gX9_plan_X9_failed rfl rfl rfl (by decide +kernel) ⟨Nat.le_of_ble_eq_true rfl, Nat.le_of_ble_eq_true rfl⟩) (z_preV hN hK hP hD (zk_lt (rfl : zk 0 = 8) (by decide)) (zx_8 (rfl : zk 0 = 8)) rfl) rfl rfl hl.1 rfl (lv_room (Nat.le_of_ble_eq_true rfl)) dX9_plan_72 ⟨Nat.zero_le _, Nat.zero_le _⟩) hS (fun H locs hP hD hS => ?_)
                exact z_iret hx hb hr hlocks hN hK hP hD hS hF dX9_plan_75
            · have hF := zif_f b30 hF
              refine lv_bipush (v := (-2 : Int32)) hx hb dX9_plan_46 (by decide) ?_
              exact z_iret hx hb hr hlocks hN hK hP hD hS hF dX9_plan_48
  · have hF := zif_t b22 hF
    refine lv_iconst (v := (-1 : Int32)) hx hb dX9_plan_12 (by decide) ?_
    exact z_iret hx hb hr hlocks hN hK hP hD hS hF dX9_plan_13
theorem kX9_best_f20 : Cond.fieldLink RX9 20 "LeastAsked" "now" "LLeastAsked$Province;" ∈ wsX9_best := by decide +kernel
theorem kX9_best_f104 : Cond.fieldLink RX9 104 "LeastAsked$Province" "count" "I" ∈ wsX9_best := by decide +kernel
theorem kX9_best_f44 : Cond.fieldLink RX9 44 "LeastAsked" "giver" "LLeastAsked$Giver;" ∈ wsX9_best := by decide +kernel
theorem kX9_best_f198 : Cond.fieldLink RX9 198 "LeastAsked$Giver" "row" "[I" ∈ wsX9_best := by decide +kernel
theorem kX9_best_f195 : Cond.fieldLink RX9 195 "LeastAsked$Giver" "most" "I" ∈ wsX9_best := by decide +kernel
theorem iX9_best_X9 : ∀ w ∈ u_ws RX9 TX9 11, w ∈ wsX9_best := fun _ h => List.mem_cons_of_mem _ (List.mem_append_left _ (List.mem_append_left _ (List.mem_append_left _ (List.mem_append_right _ h))))
theorem iX9_best_X4 : ∀ w ∈ u_ws RX4 TX4 3, w ∈ wsX9_best := fun _ h => List.mem_cons_of_mem _ (List.mem_append_left _ (List.mem_append_left _ (List.mem_append_right _ h)))
theorem iX9_best_X1 : ∀ w ∈ u_ws RX1 TX1 2, w ∈ wsX9_best := fun _ h => List.mem_cons_of_mem _ (List.mem_append_left _ (List.mem_append_right _ h))
set_option maxHeartbeats 4000000 in
set_option maxRecDepth 100000 in
theorem CX9_best (l : Launch) (D : va_G) (cI cS cP : ClassId) (ad : Nat → Nat) (A : Nat → Prop) (n : Nat) (σ σ' : zMem) (r0 : Int32) (p1 : Int32) (hF : FX9_best n σ p1 = some (r0, σ')) : Met l yX9_best wsX9_best ({ frames := 5, cells := 0, slots := 0, locals := 119 } : Room) (va_Pc [.ref (ad 0), .int p1] (zB (zx cI cS cP ad) 41 ad D (zty cI cS cP) A σ)) (va_Qi (fun r u => r = r0 ∧ u = σ') (zB (zx cI cS cP ad) 41 ad D (zty cI cS cP) A) A) 0 0 A := by
  refine Met.ofW (cc := cX9_best) (maxL := 2) (ret := (some .int)) (by decide) rfl ?_
  intro p e s m args below meth c s₁ B hml hv
  obtain ⟨rfl, hP, hK, hD, hN⟩ := hv
  have hx := B.exec
  have hb := B.bytes
  have hr := B.returns
  have hts := atoms_spec (ws := wsX9_best) B.pre
  have hown : s.vm.findClass RX9 = some m.cls := findClass_of_methodNamed B.named
  have hlocks := B.notSynchronized
  have hS : va_S A s.heap s.heap [] := va_S.rf
  have hl := lv_entry ([.ref (ad 0), .int p1]) (n := 2) (Nat.le_of_ble_eq_true rfl)
  rw [lg_entry_eq]
  generalize (lg_sl ([.ref (ad 0), .int p1]) ++ List.replicate (2 - (lg_sl ([.ref (ad 0), .int p1])).length) Slot.unset).toArray = ls at hl ⊢
  have hl : lv_has ls 2 [(0, .ref (ad 0)), (1, .int p1)] := hl
  clear B
  unfold FX9_best at hF
  refine lv_iload_n hx hb dX9_best_0 rfl (lv_at hl 1 rfl) ?_
  refine lv_iconst (v := (-1 : Int32)) hx hb dX9_best_1 (by decide) ?_
  refine lv_icmp_lt (tgt := 10) hx hb dX9_best_2 (by decide) (fun b1 => ?_) (fun b1 => ?_)
  · have hF := zif_t b1 hF
    refine lv_bipush (v := (-2 : Int32)) hx hb dX9_best_10 (by decide) ?_
    exact z_iret hx hb hr hlocks hN hK hP hD hS hF dX9_best_12
  · have hF := zif_f b1 hF
    refine lv_iload_n hx hb dX9_best_5 rfl (lv_at hl 1 rfl) ?_
    refine lv_iconst (v := (3 : Int32)) hx hb dX9_best_6 (by decide) ?_
    refine lv_icmp_lt (tgt := 13) hx hb dX9_best_7 (by decide) (fun b2 => ?_) (fun b2 => ?_)
    · have hF := zif_t b2 hF
      refine lv_aload_n hx hb dX9_best_13 rfl (lv_at hl 0 rfl) ?_
      refine z_get (ci := 8) (C := RX9) (T := TX9) (N := 11) hx hb hts iX9_best_X9 hown hK hP (zk_lt (rfl : zk 0 = 8) (by decide)) (zx_8 (rfl : zk 0 = 8)) rfl 1 (by decide) kX9_best_f20 rfl (v := .ref (ad 10)) rfl dX9_best_14 ?_
      refine z_get (ci := 4) (C := RX4) (T := TX4) (N := 3) hx hb hts iX9_best_X4 hown hK hP (zk_lt (rfl : zk 10 = 4) (by decide)) (zx_4 (rfl : zk 10 = 4)) rfl 2 (by decide) kX9_best_f104 rfl (v := .int (σ 10 2)) rfl dX9_best_17 ?_
      refine lv_if_ne (tgt := 26) hx hb dX9_best_20 (by decide) (fun b3 => ?_) (fun b3 => ?_)
      · have hF := zif_f b3 hF
        refine lv_aload_n hx hb dX9_best_26 rfl (lv_at hl 0 rfl) ?_
        refine z_get (ci := 8) (C := RX9) (T := TX9) (N := 11) hx hb hts iX9_best_X9 hown hK hP (zk_lt (rfl : zk 0 = 8) (by decide)) (zx_8 (rfl : zk 0 = 8)) rfl 5 (by decide) kX9_best_f44 rfl (v := .ref (ad 34)) rfl dX9_best_27 ?_
        refine lv_aload_n hx hb dX9_best_30 rfl (lv_at hl 0 rfl) ?_
        refine z_get (ci := 8) (C := RX9) (T := TX9) (N := 11) hx hb hts iX9_best_X9 hown hK hP (zk_lt (rfl : zk 0 = 8) (by decide)) (zx_8 (rfl : zk 0 = 8)) rfl 1 (by decide) kX9_best_f20 rfl (v := .ref (ad 10)) rfl dX9_best_31 ?_
        obtain ⟨r5, σ4, hC6, hF⟩ := zbd_inv hF
        refine z_callv (va_runV (As := [.ref (ad 10)]) (rest := []) ⟨hx, hb, hml, hown, hts⟩ (CX1_give l D cI cS cP ad A n σ σ4 r5 34 10 (rfl : zk 34 = 1) (rfl : zk 10 = 4) hC6) (cwV 1 hts gX9_best_X1_give rfl rfl rfl (by decide +kernel) ⟨Nat.le_of_ble_eq_true rfl, Nat.le_of_ble_eq_true rfl⟩) (z_preV hN hK hP hD (zk_lt (rfl : zk 34 = 1) (by decide)) (zx_1 (rfl : zk 34 = 1)) rfl) rfl rfl hl.1 rfl (lv_room (Nat.le_of_ble_eq_true rfl)) dX9_best_34 ⟨Nat.zero_le _, Nat.zero_le _⟩) hS (fun H locs hP hD hS => ?_)
        refine lv_iload_n hx hb dX9_best_37 rfl (lv_at hl 1 rfl) ?_
        refine lv_iconst (v := (-1 : Int32)) hx hb dX9_best_38 (by decide) ?_
        refine lv_icmp_ne (tgt := 52) hx hb dX9_best_39 (by decide) (fun b7 => ?_) (fun b7 => ?_)
        · have hF := zif_f b7 hF
          refine lv_aload_n hx hb dX9_best_52 rfl (lv_at hl 0 rfl) ?_
          refine z_get (ci := 8) (C := RX9) (T := TX9) (N := 11) hx hb hts iX9_best_X9 hown hK hP (zk_lt (rfl : zk 0 = 8) (by decide)) (zx_8 (rfl : zk 0 = 8)) rfl 5 (by decide) kX9_best_f44 rfl (v := .ref (ad 34)) rfl dX9_best_53 ?_
          refine z_get (ci := 1) (C := RX1) (T := TX1) (N := 2) hx hb hts iX9_best_X1 hown hK hP (zk_lt (rfl : zk 34 = 1) (by decide)) (zx_1 (rfl : zk 34 = 1)) rfl 0 (by decide) kX9_best_f198 rfl (v := .ref (ad 35)) rfl dX9_best_56 ?_
          refine lv_iload_n hx hb dX9_best_59 rfl (lv_at hl 1 rfl) ?_
          obtain ⟨g8, hF⟩ := zgd_inv hF
          refine z_iald hx hb hK hP (zk_lt (zk_1r (rfl : zk 34 = 1)) (by decide)) (zx_103 (zk_1r (rfl : zk 34 = 1))) rfl g8 dX9_best_60 ?_
          exact z_iret hx hb hr hlocks hN hK hP hD hS hF dX9_best_61
        · have hF := zif_t b7 hF
          refine lv_aload_n hx hb dX9_best_42 rfl (lv_at hl 0 rfl) ?_
          refine z_get (ci := 8) (C := RX9) (T := TX9) (N := 11) hx hb hts iX9_best_X9 hown hK hP (zk_lt (rfl : zk 0 = 8) (by decide)) (zx_8 (rfl : zk 0 = 8)) rfl 5 (by decide) kX9_best_f44 rfl (v := .ref (ad 34)) rfl dX9_best_43 ?_
          refine z_get (ci := 1) (C := RX1) (T := TX1) (N := 2) hx hb hts iX9_best_X1 hown hK hP (zk_lt (rfl : zk 34 = 1) (by decide)) (zx_1 (rfl : zk 34 = 1)) rfl 1 (by decide) kX9_best_f195 rfl (v := .int (σ4 34 1)) rfl dX9_best_46 ?_
          refine lv_goto (tgt := 61) hx hb dX9_best_49 (by decide) ?_
          exact z_iret hx hb hr hlocks hN hK hP hD hS hF dX9_best_61
      · have hF := zif_t b3 hF
        refine lv_bipush (v := (-3 : Int32)) hx hb dX9_best_23 (by decide) ?_
        exact z_iret hx hb hr hlocks hN hK hP hD hS hF dX9_best_25
    · have hF := zif_f b2 hF
      refine lv_bipush (v := (-2 : Int32)) hx hb dX9_best_10 (by decide) ?_
      exact z_iret hx hb hr hlocks hN hK hP hD hS hF dX9_best_12
theorem kX9_reading_f20 : Cond.fieldLink RX9 20 "LeastAsked" "now" "LLeastAsked$Province;" ∈ wsX9_reading := by decide +kernel
theorem kX9_reading_f51 : Cond.fieldLink RX9 51 "LeastAsked" "readings" "LLeastAsked$Readings;" ∈ wsX9_reading := by decide +kernel
theorem kX9_reading_f101 : Cond.fieldLink RX9 101 "LeastAsked$Readings" "count" "I" ∈ wsX9_reading := by decide +kernel
theorem iX9_reading_X9 : ∀ w ∈ u_ws RX9 TX9 11, w ∈ wsX9_reading := fun _ h => List.mem_cons_of_mem _ (List.mem_append_left _ (List.mem_append_left _ (List.mem_append_right _ h)))
theorem iX9_reading_X5 : ∀ w ∈ u_ws RX5 TX5 4, w ∈ wsX9_reading := fun _ h => List.mem_cons_of_mem _ (List.mem_append_left _ (List.mem_append_right _ h))
set_option maxHeartbeats 4000000 in
set_option maxRecDepth 100000 in
theorem CX9_reading (l : Launch) (D : va_G) (cI cS cP : ClassId) (ad : Nat → Nat) (A : Nat → Prop) (n : Nat) (σ σ' : zMem) (r0 : Int32) (p1 : Int32) (p2 : Int32) (p3 : Int32) (hF : FX9_reading n σ p1 p2 p3 = some (r0, σ')) : Met l yX9_reading wsX9_reading ({ frames := 2, cells := 0, slots := 0, locals := 42 } : Room) (va_Pc [.ref (ad 0), .int p1, .int p2, .int p3] (zB (zx cI cS cP ad) 41 ad D (zty cI cS cP) A σ)) (va_Qi (fun r u => r = r0 ∧ u = σ') (zB (zx cI cS cP ad) 41 ad D (zty cI cS cP) A) A) 0 0 A := by
  refine Met.ofW (cc := cX9_reading) (maxL := 4) (ret := (some .int)) (by decide) rfl ?_
  intro p e s m args below meth c s₁ B hml hv
  obtain ⟨rfl, hP, hK, hD, hN⟩ := hv
  have hx := B.exec
  have hb := B.bytes
  have hr := B.returns
  have hts := atoms_spec (ws := wsX9_reading) B.pre
  have hown : s.vm.findClass RX9 = some m.cls := findClass_of_methodNamed B.named
  have hlocks := B.notSynchronized
  have hS : va_S A s.heap s.heap [] := va_S.rf
  have hl := lv_entry ([.ref (ad 0), .int p1, .int p2, .int p3]) (n := 4) (Nat.le_of_ble_eq_true rfl)
  rw [lg_entry_eq]
  generalize (lg_sl ([.ref (ad 0), .int p1, .int p2, .int p3]) ++ List.replicate (4 - (lg_sl ([.ref (ad 0), .int p1, .int p2, .int p3])).length) Slot.unset).toArray = ls at hl ⊢
  have hl : lv_has ls 4 [(0, .ref (ad 0)), (1, .int p1), (2, .int p2), (3, .int p3)] := hl
  clear B
  unfold FX9_reading at hF
  refine lv_aload_n hx hb dX9_reading_0 rfl (lv_at hl 0 rfl) ?_
  refine z_get (ci := 8) (C := RX9) (T := TX9) (N := 11) hx hb hts iX9_reading_X9 hown hK hP (zk_lt (rfl : zk 0 = 8) (by decide)) (zx_8 (rfl : zk 0 = 8)) rfl 1 (by decide) kX9_reading_f20 rfl (v := .ref (ad 10)) rfl dX9_reading_1 ?_
  refine lv_iload_n hx hb dX9_reading_4 rfl (lv_at hl 1 rfl) ?_
  obtain ⟨r2, σ1, hC3, hF⟩ := zbd_inv hF
  refine z_calli (va_runV (As := [.int p1]) (rest := []) ⟨hx, hb, hml, hown, hts⟩ (CX4_hasPerson l D cI cS cP ad A n σ σ1 r2 10 p1 (rfl : zk 10 = 4) hC3) (cwV 1 hts gX9_reading_X4_hasPerson rfl rfl rfl (by decide +kernel) ⟨Nat.le_of_ble_eq_true rfl, Nat.le_of_ble_eq_true rfl⟩) (z_preV hN hK hP hD (zk_lt (rfl : zk 10 = 4) (by decide)) (zx_4 (rfl : zk 10 = 4)) rfl) rfl rfl hl.1 rfl (lv_room (Nat.le_of_ble_eq_true rfl)) dX9_reading_5 ⟨Nat.zero_le _, Nat.zero_le _⟩) hS (fun H locs hP hD hS => ?_)
  refine lv_if_eq (tgt := 22) hx hb dX9_reading_8 (by decide) (fun b4 => ?_) (fun b4 => ?_)
  · have hF := zif_t b4 hF
    refine lv_iconst (v := (-1 : Int32)) hx hb dX9_reading_22 (by decide) ?_
    exact z_iret hx hb hr hlocks hN hK hP hD hS hF dX9_reading_23
  · have hF := zif_f b4 hF
    refine lv_aload_n hx hb dX9_reading_11 rfl (lv_at hl 0 rfl) ?_
    refine z_get (ci := 8) (C := RX9) (T := TX9) (N := 11) hx hb hts iX9_reading_X9 hown hK hP (zk_lt (rfl : zk 0 = 8) (by decide)) (zx_8 (rfl : zk 0 = 8)) rfl 1 (by decide) kX9_reading_f20 rfl (v := .ref (ad 10)) rfl dX9_reading_12 ?_
    refine lv_iload_n hx hb dX9_reading_15 rfl (lv_at hl 2 rfl) ?_
    obtain ⟨r6, σ5, hC7, hF⟩ := zbd_inv hF
    refine z_calli (va_runV (As := [.int p2]) (rest := []) ⟨hx, hb, hml, hown, hts⟩ (CX4_hasMatter l D cI cS cP ad A n σ1 σ5 r6 10 p2 (rfl : zk 10 = 4) hC7) (cwV 1 hts gX9_reading_X4_hasMatter rfl rfl rfl (by decide +kernel) ⟨Nat.le_of_ble_eq_true rfl, Nat.le_of_ble_eq_true rfl⟩) (z_preV hN hK hP hD (zk_lt (rfl : zk 10 = 4) (by decide)) (zx_4 (rfl : zk 10 = 4)) rfl) rfl rfl hl.1 rfl (lv_room (Nat.le_of_ble_eq_true rfl)) dX9_reading_16 ⟨Nat.zero_le _, Nat.zero_le _⟩) hS (fun H locs hP hD hS => ?_)
    refine lv_if_ne (tgt := 24) hx hb dX9_reading_19 (by decide) (fun b8 => ?_) (fun b8 => ?_)
    · have hF := zif_f b8 hF
      refine lv_iload_n hx hb dX9_reading_24 rfl (lv_at hl 3 rfl) ?_
      refine lv_if_lt (tgt := 35) hx hb dX9_reading_25 (by decide) (fun b9 => ?_) (fun b9 => ?_)
      · have hF := zif_t b9 hF
        refine lv_bipush (v := (-2 : Int32)) hx hb dX9_reading_35 (by decide) ?_
        exact z_iret hx hb hr hlocks hN hK hP hD hS hF dX9_reading_37
      · have hF := zif_f b9 hF
        refine lv_iload_n hx hb dX9_reading_28 rfl (lv_at hl 3 rfl) ?_
        refine lv_sipush (v := (200 : Int32)) hx hb dX9_reading_29 (by decide) ?_
        refine lv_icmp_le (tgt := 38) hx hb dX9_reading_32 (by decide) (fun b10 => ?_) (fun b10 => ?_)
        · have hF := zif_t b10 hF
          refine lv_aload_n hx hb dX9_reading_38 rfl (lv_at hl 0 rfl) ?_
          refine z_get (ci := 8) (C := RX9) (T := TX9) (N := 11) hx hb hts iX9_reading_X9 hown hK hP (zk_lt (rfl : zk 0 = 8) (by decide)) (zx_8 (rfl : zk 0 = 8)) rfl 6 (by decide) kX9_reading_f51 rfl (v := .ref (ad 36)) rfl dX9_reading_39 ?_
          refine z_get (ci := 5) (C := RX5) (T := TX5) (N := 4) hx hb hts iX9_reading_X5 hown hK hP (zk_lt (rfl : zk 36 = 5) (by decide)) (zx_5 (rfl : zk 36 = 5)) rfl 3 (by decide) kX9_reading_f101 rfl (v := .int (σ5 36 3)) rfl dX9_reading_42 ?_
          refine lv_bipush (v := (8 : Int32)) hx hb dX9_reading_45 (by decide) ?_
          refine lv_icmp_lt (tgt := 53) hx hb dX9_reading_47 (by decide) (fun b11 => ?_) (fun b11 => ?_)
          · have hF := zif_t b11 hF
            refine lv_aload_n hx hb dX9_reading_53 rfl (lv_at hl 0 rfl) ?_
            refine z_get (ci := 8) (C := RX9) (T := TX9) (N := 11) hx hb hts iX9_reading_X9 hown hK hP (zk_lt (rfl : zk 0 = 8) (by decide)) (zx_8 (rfl : zk 0 = 8)) rfl 6 (by decide) kX9_reading_f51 rfl (v := .ref (ad 36)) rfl dX9_reading_54 ?_
            refine lv_iload_n hx hb dX9_reading_57 rfl (lv_at hl 1 rfl) ?_
            refine lv_iload_n hx hb dX9_reading_58 rfl (lv_at hl 2 rfl) ?_
            refine lv_iload_n hx hb dX9_reading_59 rfl (lv_at hl 3 rfl) ?_
            obtain ⟨r13, σ12, hC14, hF⟩ := zbd_inv hF
            refine z_calli (va_runV (As := [.int p1, .int p2, .int p3]) (rest := []) ⟨hx, hb, hml, hown, hts⟩ (CX5_take l D cI cS cP ad A n σ5 σ12 r13 36 p1 p2 p3 (rfl : zk 36 = 5) hC14) (cwV 3 hts gX9_reading_X5_take rfl rfl rfl (by decide +kernel) ⟨Nat.le_of_ble_eq_true rfl, Nat.le_of_ble_eq_true rfl⟩) (z_preV hN hK hP hD (zk_lt (rfl : zk 36 = 5) (by decide)) (zx_5 (rfl : zk 36 = 5)) rfl) rfl rfl hl.1 rfl (lv_room (Nat.le_of_ble_eq_true rfl)) dX9_reading_60 ⟨Nat.zero_le _, Nat.zero_le _⟩) hS (fun H locs hP hD hS => ?_)
            exact z_iret hx hb hr hlocks hN hK hP hD hS hF dX9_reading_63
          · have hF := zif_f b11 hF
            refine lv_bipush (v := (-4 : Int32)) hx hb dX9_reading_50 (by decide) ?_
            exact z_iret hx hb hr hlocks hN hK hP hD hS hF dX9_reading_52
        · have hF := zif_f b10 hF
          refine lv_bipush (v := (-2 : Int32)) hx hb dX9_reading_35 (by decide) ?_
          exact z_iret hx hb hr hlocks hN hK hP hD hS hF dX9_reading_37
    · have hF := zif_t b8 hF
      refine lv_iconst (v := (-1 : Int32)) hx hb dX9_reading_22 (by decide) ?_
      exact z_iret hx hb hr hlocks hN hK hP hD hS hF dX9_reading_23
