/-! ===== contracts: X10_province, X10_saysOf, X10_bringsOf, X10_firstOf, X10_placeOf, X10_ofPerson, X10_worth, X10_weigh, X10_teach, X10_sharpen, X10_brings, X10_question, X10_feint, X10_keep, X10_putBack ===== -/
theorem kX10_province_f67 : Cond.fieldLink RX10 67 "LeastAskedModel" "fault" "I" ∈ wsX10_province := by decide +kernel
theorem kX10_province_f80 : Cond.fieldLink RX10 80 "LeastAskedModel" "at" "I" ∈ wsX10_province := by decide +kernel
theorem kX10_province_f77 : Cond.fieldLink RX10 77 "LeastAskedModel" "people" "I" ∈ wsX10_province := by decide +kernel
theorem iX10_province_X10 : ∀ w ∈ u_ws RX10 TX10 32, w ∈ wsX10_province := fun _ h => List.mem_cons_of_mem _ (List.mem_append_right _ h)
set_option maxHeartbeats 4000000 in
set_option maxRecDepth 100000 in
theorem CX10_province (l : Launch) (D : va_G) (cI cS cP : ClassId) (ad : Nat → Nat) (A : Nat → Prop) (n : Nat) (σ σ' : zMem) (r0 : Int32) (p1 : Int32) (p2 : Int32) (p3 : Int32) (p4 : Int32) (hF : FX10_province n σ p1 p2 p3 p4 = some (r0, σ')) : Met l yX10_province wsX10_province ({ frames := 4, cells := 0, slots := 0, locals := 90 } : Room) (va_Pc [.ref (ad 0), .int p1, .int p2, .int p3, .int p4] (zB (zm cI ad) 20 ad D (zty cI cS cP) A σ)) (va_Qi (fun r u => r = r0 ∧ u = σ') (zB (zm cI ad) 20 ad D (zty cI cS cP) A) A) 0 0 A := by
  refine Met.ofW (cc := cX10_province) (maxL := 7) (ret := (some .int)) (by decide) rfl ?_
  intro p e s m args below meth c s₁ B hml hv
  obtain ⟨rfl, hP, hK, hD, hN⟩ := hv
  have hx := B.exec
  have hb := B.bytes
  have hr := B.returns
  have hts := atoms_spec (ws := wsX10_province) B.pre
  have hown : s.vm.findClass RX10 = some m.cls := findClass_of_methodNamed B.named
  have hlocks := B.notSynchronized
  have hS : va_S A s.heap s.heap [] := va_S.rf
  have hl := lv_entry ([.ref (ad 0), .int p1, .int p2, .int p3, .int p4]) (n := 7) (Nat.le_of_ble_eq_true rfl)
  rw [lg_entry_eq]
  generalize (lg_sl ([.ref (ad 0), .int p1, .int p2, .int p3, .int p4]) ++ List.replicate (7 - (lg_sl ([.ref (ad 0), .int p1, .int p2, .int p3, .int p4])).length) Slot.unset).toArray = ls at hl ⊢
  have hl : lv_has ls 7 [(0, .ref (ad 0)), (1, .int p1), (2, .int p2), (3, .int p3), (4, .int p4)] := hl
  clear B
  unfold FX10_province at hF
  refine lv_aload_n hx hb dX10_province_0 rfl (lv_at hl 0 rfl) ?_
  refine lv_iconst (v := (0 : Int32)) hx hb dX10_province_1 (by decide) ?_
  obtain ⟨σ1, eσ1, hF⟩ := zlet_inv hF
  refine z_put (ci := 9) (C := RX10) (T := TX10) (N := 32) hx hb hts iX10_province_X10 tyX10 tyX10_ok nmX10 hown hK hP hD hS (by decide) zm_0 rfl 0 (by decide) kX10_province_f67 rfl rfl rfl rfl (Nat.le_of_ble_eq_true rfl) zm_0 dX10_province_2 (fun H locs hP hD hS => ?_)
  have hP : va_P D vwCl (zW (zm cI ad) 20 ad σ1) H := by rw [eσ1]; exact hP
  have hD : va_D A (zW (zm cI ad) 20 ad σ1) := by rw [eσ1]; exact hD
  refine lv_iload_n hx hb dX10_province_5 rfl (lv_at hl 1 rfl) ?_
  obtain ⟨r3, σ2, hC4, hF⟩ := zbd_inv hF
  refine z_calli (va_runS (As := [.int p1]) (rest := []) ⟨hx, hb, hml, hown, hts⟩ (CX10_isSheet l D cI cS cP ad A n σ1 σ2 r3 p1 hC4) (va_cwS 1 hts gX10_province_X10_isSheet rfl rfl rfl (by decide +kernel) ⟨Nat.le_of_ble_eq_true rfl, Nat.le_of_ble_eq_true rfl⟩) (z_preS hN hK hP hD) rfl rfl hl.1 rfl (lv_room (Nat.le_of_ble_eq_true rfl)) dX10_province_6 ⟨Nat.zero_le _, Nat.zero_le _⟩) hS (fun H locs hP hD hS => ?_)
  refine lv_if_ne (tgt := 14) hx hb dX10_province_9 (by decide) (fun b5 => ?_) (fun b5 => ?_)
  · have hF := zif_f b5 hF
    refine lv_iload_n hx hb dX10_province_14 rfl (lv_at hl 2 rfl) ?_
    obtain ⟨r7, σ6, hC8, hF⟩ := zbd_inv hF
    refine z_calli (va_runS (As := [.int p2]) (rest := []) ⟨hx, hb, hml, hown, hts⟩ (CX10_isSort l D cI cS cP ad A n σ2 σ6 r7 p2 hC8) (va_cwS 1 hts gX10_province_X10_isSort rfl rfl rfl (by decide +kernel) ⟨Nat.le_of_ble_eq_true rfl, Nat.le_of_ble_eq_true rfl⟩) (z_preS hN hK hP hD) rfl rfl hl.1 rfl (lv_room (Nat.le_of_ble_eq_true rfl)) dX10_province_15 ⟨Nat.zero_le _, Nat.zero_le _⟩) hS (fun H locs hP hD hS => ?_)
    refine lv_if_ne (tgt := 24) hx hb dX10_province_18 (by decide) (fun b9 => ?_) (fun b9 => ?_)
    · have hF := zif_f b9 hF
      refine lv_aload_n hx hb dX10_province_24 rfl (lv_at hl 0 rfl) ?_
      refine lv_iload_n hx hb dX10_province_25 rfl (lv_at hl 1 rfl) ?_
      refine lv_iload_n hx hb dX10_province_26 rfl (lv_at hl 2 rfl) ?_
      refine lv_iload_n hx hb dX10_province_27 rfl (lv_at hl 3 rfl) ?_
      refine lv_iload hx hb dX10_province_28 (lv_at hl 4 rfl) ?_
      obtain ⟨r11, σ10, hC12, hF⟩ := zbd_inv hF
      refine z_calli (va_runV (As := [.int p1, .int p2, .int p3, .int p4]) (rest := []) ⟨hx, hb, hml, hown, hts⟩ (CX10_against l D cI cS cP ad A n σ6 σ10 r11 p1 p2 p3 p4 hC12) (cwV 4 hts gX10_province_X10_against rfl rfl rfl (by decide +kernel) ⟨Nat.le_of_ble_eq_true rfl, Nat.le_of_ble_eq_true rfl⟩) (z_preV hN hK hP hD (by decide) zm_0 rfl) rfl rfl hl.1 rfl (lv_room (Nat.le_of_ble_eq_true rfl)) dX10_province_30 ⟨Nat.zero_le _, Nat.zero_le _⟩) hS (fun H locs hP hD hS => ?_)
      refine lv_istore (lv' := [(5, .int r11), (0, .ref (ad 0)), (1, .int p1), (2, .int p2), (3, .int p3), (4, .int p4)]) hx hb dX10_province_33 hl (by decide) rfl (fun ls hl => ?_)
      refine lv_iload hx hb dX10_province_35 (lv_at hl 0 rfl) ?_
      refine lv_if_eq (tgt := 47) hx hb dX10_province_37 (by decide) (fun b13 => ?_) (fun b13 => ?_)
      · have hF := zif_t b13 hF
        refine lv_bipush (v := (60 : Int32)) hx hb dX10_province_47 (by decide) ?_
        refine lv_iload_n hx hb dX10_province_49 rfl (lv_at hl 2 rfl) ?_
        refine lv_imul hx hb dX10_province_50 ?_
        refine lv_iload_n hx hb dX10_province_51 rfl (lv_at hl 4 rfl) ?_
        refine lv_iadd hx hb dX10_province_52 ?_
        refine lv_istore (lv' := [(6, .int (((60 : Int32) * p1) + p3)), (5, .int r11), (0, .ref (ad 0)), (1, .int p1), (2, .int p2), (3, .int p3), (4, .int p4)]) hx hb dX10_province_53 hl (by decide) rfl (fun ls hl => ?_)
        refine lv_aload_n hx hb dX10_province_55 rfl (lv_at hl 2 rfl) ?_
        refine lv_iload hx hb dX10_province_56 (lv_at hl 0 rfl) ?_
        obtain ⟨σ14, eσ14, hF⟩ := zlet_inv hF
        refine z_put (ci := 9) (C := RX10) (T := TX10) (N := 32) hx hb hts iX10_province_X10 tyX10 tyX10_ok nmX10 hown hK hP hD hS (by decide) zm_0 rfl 13 (by decide) kX10_province_f80 rfl rfl rfl rfl (Nat.le_of_ble_eq_true rfl) zm_0 dX10_province_58 (fun H locs hP hD hS => ?_)
        have hP : va_P D vwCl (zW (zm cI ad) 20 ad σ14) H := by rw [eσ14]; exact hP
        have hD : va_D A (zW (zm cI ad) 20 ad σ14) := by rw [eσ14]; exact hD
        refine lv_aload_n hx hb dX10_province_61 rfl (lv_at hl 2 rfl) ?_
        refine lv_iload hx hb dX10_province_62 (lv_at hl 0 rfl) ?_
        refine lv_iload hx hb dX10_province_64 (lv_at hl 6 rfl) ?_
        refine lv_iadd hx hb dX10_province_66 ?_
        obtain ⟨r16, σ15, hC17, hF⟩ := zbd_inv hF
        refine z_calli (va_runV (As := [.int ((((60 : Int32) * p1) + p3) + p4)]) (rest := []) ⟨hx, hb, hml, hown, hts⟩ (CX10_readProvince l D cI cS cP ad A n σ14 σ15 r16 ((((60 : Int32) * p1) + p3) + p4) hC17) (cwV 1 hts gX10_province_X10_readProvince rfl rfl rfl (by decide +kernel) ⟨Nat.le_of_ble_eq_true rfl, Nat.le_of_ble_eq_true rfl⟩) (z_preV hN hK hP hD (by decide) zm_0 rfl) rfl rfl hl.1 rfl (lv_room (Nat.le_of_ble_eq_true rfl)) dX10_province_67 ⟨Nat.zero_le _, Nat.zero_le _⟩) hS (fun H locs hP hD hS => ?_)
        refine lv_if_ne (tgt := 84) hx hb dX10_province_70 (by decide) (fun b18 => ?_) (fun b18 => ?_)
        · have hF := zif_f b18 hF
          refine lv_aload_n hx hb dX10_province_84 rfl (lv_at hl 2 rfl) ?_
          obtain ⟨r20, σ19, hC21, hF⟩ := zbd_inv hF
          refine z_callv (va_runV (As := []) (rest := []) ⟨hx, hb, hml, hown, hts⟩ (CX10_takeProvince l D cI cS cP ad A n σ15 σ19 r20 hC21) (cwV 0 hts gX10_province_X10_takeProvince rfl rfl rfl (by decide +kernel) ⟨Nat.le_of_ble_eq_true rfl, Nat.le_of_ble_eq_true rfl⟩) (z_preV hN hK hP hD (by decide) zm_0 rfl) rfl rfl hl.1 rfl (lv_room (Nat.le_of_ble_eq_true rfl)) dX10_province_85 ⟨Nat.zero_le _, Nat.zero_le _⟩) hS (fun H locs hP hD hS => ?_)
          refine lv_aload_n hx hb dX10_province_88 rfl (lv_at hl 2 rfl) ?_
          refine z_get (ci := 9) (C := RX10) (T := TX10) (N := 32) hx hb hts iX10_province_X10 hown hK hP (by decide) zm_0 rfl 5 (by decide) kX10_province_f77 rfl (v := .int (σ19 0 5)) rfl dX10_province_89 ?_
          exact z_iret hx hb hr hlocks hN hK hP hD hS hF dX10_province_92
        · have hF := zif_t b18 hF
          refine lv_bipush (v := (-100 : Int32)) hx hb dX10_province_73 (by decide) ?_
          refine lv_aload_n hx hb dX10_province_75 rfl (lv_at hl 2 rfl) ?_
          refine z_get (ci := 9) (C := RX10) (T := TX10) (N := 32) hx hb hts iX10_province_X10 hown hK hP (by decide) zm_0 rfl 13 (by decide) kX10_province_f80 rfl (v := .int (σ15 0 13)) rfl dX10_province_76 ?_
          refine lv_iload hx hb dX10_province_79 (lv_at hl 0 rfl) ?_
          refine lv_isub hx hb dX10_province_81 ?_
          refine lv_isub hx hb dX10_province_82 ?_
          exact z_iret hx hb hr hlocks hN hK hP hD hS hF dX10_province_83
      · have hF := zif_f b13 hF
        refine lv_aload_n hx hb dX10_province_40 rfl (lv_at hl 1 rfl) ?_
        refine lv_iload hx hb dX10_province_41 (lv_at hl 0 rfl) ?_
        obtain ⟨r23, σ22, hC24, hF⟩ := zbd_inv hF
        refine z_calli (va_runV (As := [.int r11]) (rest := []) ⟨hx, hb, hml, hown, hts⟩ (CX10_fails l D cI cS cP ad A n σ10 σ22 r23 r11 hC24) (cwV 1 hts gX10_province_X10_fails rfl rfl rfl (by decide +kernel) ⟨Nat.le_of_ble_eq_true rfl, Nat.le_of_ble_eq_true rfl⟩) (z_preV hN hK hP hD (by decide) zm_0 rfl) rfl rfl hl.1 rfl (lv_room (Nat.le_of_ble_eq_true rfl)) dX10_province_43 ⟨Nat.zero_le _, Nat.zero_le _⟩) hS (fun H locs hP hD hS => ?_)
        exact z_iret hx hb hr hlocks hN hK hP hD hS hF dX10_province_46
    · have hF := zif_t b9 hF
      refine lv_bipush (v := (-2 : Int32)) hx hb dX10_province_21 (by decide) ?_
      exact z_iret hx hb hr hlocks hN hK hP hD hS hF dX10_province_23
  · have hF := zif_t b5 hF
    refine lv_iconst (v := (-1 : Int32)) hx hb dX10_province_12 (by decide) ?_
    exact z_iret hx hb hr hlocks hN hK hP hD hS hF dX10_province_13
theorem kX10_saysOf_f22 : Cond.fieldLink RX10 22 "LeastAskedModel" "kind" "[I" ∈ wsX10_saysOf := by decide +kernel
theorem kX10_saysOf_f31 : Cond.fieldLink RX10 31 "LeastAskedModel" "wit" "[I" ∈ wsX10_saysOf := by decide +kernel
theorem iX10_saysOf_X10 : ∀ w ∈ u_ws RX10 TX10 32, w ∈ wsX10_saysOf := fun _ h => List.mem_cons_of_mem _ (List.mem_append_right _ h)
set_option maxHeartbeats 4000000 in
set_option maxRecDepth 100000 in
theorem CX10_saysOf (l : Launch) (D : va_G) (cI cS cP : ClassId) (ad : Nat → Nat) (A : Nat → Prop) (n : Nat) (σ σ' : zMem) (r0 : Int32) (p1 : Int32) (hF : FX10_saysOf n σ p1 = some (r0, σ')) : Met l yX10_saysOf wsX10_saysOf ({ frames := 0, cells := 0, slots := 0, locals := 0 } : Room) (va_Pc [.ref (ad 0), .int p1] (zB (zm cI ad) 20 ad D (zty cI cS cP) A σ)) (va_Qi (fun r u => r = r0 ∧ u = σ') (zB (zm cI ad) 20 ad D (zty cI cS cP) A) A) 0 0 A := by
  refine Met.ofW (cc := cX10_saysOf) (maxL := 2) (ret := (some .int)) (by decide) rfl ?_
  intro p e s m args below meth c s₁ B hml hv
  obtain ⟨rfl, hP, hK, hD, hN⟩ := hv
  have hx := B.exec
  have hb := B.bytes
  have hr := B.returns
  have hts := atoms_spec (ws := wsX10_saysOf) B.pre
  have hown : s.vm.findClass RX10 = some m.cls := findClass_of_methodNamed B.named
  have hlocks := B.notSynchronized
  have hS : va_S A s.heap s.heap [] := va_S.rf
  have hl := lv_entry ([.ref (ad 0), .int p1]) (n := 2) (Nat.le_of_ble_eq_true rfl)
  rw [lg_entry_eq]
  generalize (lg_sl ([.ref (ad 0), .int p1]) ++ List.replicate (2 - (lg_sl ([.ref (ad 0), .int p1])).length) Slot.unset).toArray = ls at hl ⊢
  have hl : lv_has ls 2 [(0, .ref (ad 0)), (1, .int p1)] := hl
  clear B
  unfold FX10_saysOf at hF
  refine lv_aload_n hx hb dX10_saysOf_0 rfl (lv_at hl 0 rfl) ?_
  refine z_get (ci := 9) (C := RX10) (T := TX10) (N := 32) hx hb hts iX10_saysOf_X10 hown hK hP (by decide) zm_0 rfl 9 (by decide) kX10_saysOf_f22 rfl (v := .ref (ad 5)) rfl dX10_saysOf_1 ?_
  refine lv_iload_n hx hb dX10_saysOf_4 rfl (lv_at hl 1 rfl) ?_
  obtain ⟨g1, hF⟩ := zgd_inv hF
  refine z_iald hx hb hK hP (by decide) (zm_a (n := 6) (by decide)) rfl g1 dX10_saysOf_5 ?_
  refine lv_if_ne (tgt := 18) hx hb dX10_saysOf_6 (by decide) (fun b2 => ?_) (fun b2 => ?_)
  · have hF := zif_f b2 hF
    refine lv_aload_n hx hb dX10_saysOf_18 rfl (lv_at hl 0 rfl) ?_
    refine z_get (ci := 9) (C := RX10) (T := TX10) (N := 32) hx hb hts iX10_saysOf_X10 hown hK hP (by decide) zm_0 rfl 9 (by decide) kX10_saysOf_f22 rfl (v := .ref (ad 5)) rfl dX10_saysOf_19 ?_
    refine lv_iload_n hx hb dX10_saysOf_22 rfl (lv_at hl 1 rfl) ?_
    obtain ⟨g3, hF⟩ := zgd_inv hF
    refine z_iald hx hb hK hP (by decide) (zm_a (n := 6) (by decide)) rfl g3 dX10_saysOf_23 ?_
    refine lv_iconst (v := (1 : Int32)) hx hb dX10_saysOf_24 (by decide) ?_
    refine lv_icmp_ne (tgt := 39) hx hb dX10_saysOf_25 (by decide) (fun b4 => ?_) (fun b4 => ?_)
    · have hF := zif_f b4 hF
      refine lv_iconst (v := (2 : Int32)) hx hb dX10_saysOf_39 (by decide) ?_
      refine lv_aload_n hx hb dX10_saysOf_40 rfl (lv_at hl 0 rfl) ?_
      refine z_get (ci := 9) (C := RX10) (T := TX10) (N := 32) hx hb hts iX10_saysOf_X10 hown hK hP (by decide) zm_0 rfl 12 (by decide) kX10_saysOf_f31 rfl (v := .ref (ad 8)) rfl dX10_saysOf_41 ?_
      refine lv_iload_n hx hb dX10_saysOf_44 rfl (lv_at hl 1 rfl) ?_
      obtain ⟨g5, hF⟩ := zgd_inv hF
      refine z_iald hx hb hK hP (by decide) (zm_a (n := 6) (by decide)) rfl g5 dX10_saysOf_45 ?_
      refine lv_imul hx hb dX10_saysOf_46 ?_
      exact z_iret hx hb hr hlocks hN hK hP hD hS hF dX10_saysOf_47
    · have hF := zif_t b4 hF
      refine lv_aload_n hx hb dX10_saysOf_28 rfl (lv_at hl 0 rfl) ?_
      refine z_get (ci := 9) (C := RX10) (T := TX10) (N := 32) hx hb hts iX10_saysOf_X10 hown hK hP (by decide) zm_0 rfl 12 (by decide) kX10_saysOf_f31 rfl (v := .ref (ad 8)) rfl dX10_saysOf_29 ?_
      refine lv_iload_n hx hb dX10_saysOf_32 rfl (lv_at hl 1 rfl) ?_
      obtain ⟨g6, hF⟩ := zgd_inv hF
      refine z_iald hx hb hK hP (by decide) (zm_a (n := 6) (by decide)) rfl g6 dX10_saysOf_33 ?_
      refine lv_iconst (v := (1 : Int32)) hx hb dX10_saysOf_34 (by decide) ?_
      refine lv_iadd hx hb dX10_saysOf_35 ?_
      refine lv_goto (tgt := 47) hx hb dX10_saysOf_36 (by decide) ?_
      exact z_iret hx hb hr hlocks hN hK hP hD hS hF dX10_saysOf_47
  · have hF := zif_t b2 hF
    refine lv_aload_n hx hb dX10_saysOf_9 rfl (lv_at hl 0 rfl) ?_
    refine z_get (ci := 9) (C := RX10) (T := TX10) (N := 32) hx hb hts iX10_saysOf_X10 hown hK hP (by decide) zm_0 rfl 12 (by decide) kX10_saysOf_f31 rfl (v := .ref (ad 8)) rfl dX10_saysOf_10 ?_
    refine lv_iload_n hx hb dX10_saysOf_13 rfl (lv_at hl 1 rfl) ?_
    obtain ⟨g7, hF⟩ := zgd_inv hF
    refine z_iald hx hb hK hP (by decide) (zm_a (n := 6) (by decide)) rfl g7 dX10_saysOf_14 ?_
    refine lv_goto (tgt := 47) hx hb dX10_saysOf_15 (by decide) ?_
    exact z_iret hx hb hr hlocks hN hK hP hD hS hF dX10_saysOf_47
theorem kX10_bringsOf_f28 : Cond.fieldLink RX10 28 "LeastAskedModel" "knows" "[I" ∈ wsX10_bringsOf := by decide +kernel
theorem kX10_bringsOf_f19 : Cond.fieldLink RX10 19 "LeastAskedModel" "worths" "[I" ∈ wsX10_bringsOf := by decide +kernel
theorem iX10_bringsOf_X10 : ∀ w ∈ u_ws RX10 TX10 32, w ∈ wsX10_bringsOf := fun _ h => List.mem_cons_of_mem _ (List.mem_append_right _ h)
set_option maxHeartbeats 4000000 in
set_option maxRecDepth 100000 in
theorem CX10_bringsOf (l : Launch) (D : va_G) (cI cS cP : ClassId) (ad : Nat → Nat) (A : Nat → Prop) (n : Nat) (σ σ' : zMem) (r0 : Int32) (p1 : Int32) (p2 : Int32) (hF : FX10_bringsOf n σ p1 p2 = some (r0, σ')) : Met l yX10_bringsOf wsX10_bringsOf ({ frames := 1, cells := 0, slots := 0, locals := 21 } : Room) (va_Pc [.ref (ad 0), .int p1, .int p2] (zB (zm cI ad) 20 ad D (zty cI cS cP) A σ)) (va_Qi (fun r u => r = r0 ∧ u = σ') (zB (zm cI ad) 20 ad D (zty cI cS cP) A) A) 0 0 A := by
  refine Met.ofW (cc := cX10_bringsOf) (maxL := 3) (ret := (some .int)) (by decide) rfl ?_
  intro p e s m args below meth c s₁ B hml hv
  obtain ⟨rfl, hP, hK, hD, hN⟩ := hv
  have hx := B.exec
  have hb := B.bytes
  have hr := B.returns
  have hts := atoms_spec (ws := wsX10_bringsOf) B.pre
  have hown : s.vm.findClass RX10 = some m.cls := findClass_of_methodNamed B.named
  have hlocks := B.notSynchronized
  have hS : va_S A s.heap s.heap [] := va_S.rf
  have hl := lv_entry ([.ref (ad 0), .int p1, .int p2]) (n := 3) (Nat.le_of_ble_eq_true rfl)
  rw [lg_entry_eq]
  generalize (lg_sl ([.ref (ad 0), .int p1, .int p2]) ++ List.replicate (3 - (lg_sl ([.ref (ad 0), .int p1, .int p2])).length) Slot.unset).toArray = ls at hl ⊢
  have hl : lv_has ls 3 [(0, .ref (ad 0)), (1, .int p1), (2, .int p2)] := hl
  clear B
  unfold FX10_bringsOf at hF
  refine lv_aload_n hx hb dX10_bringsOf_0 rfl (lv_at hl 0 rfl) ?_
  refine z_get (ci := 9) (C := RX10) (T := TX10) (N := 32) hx hb hts iX10_bringsOf_X10 hown hK hP (by decide) zm_0 rfl 11 (by decide) kX10_bringsOf_f28 rfl (v := .ref (ad 7)) rfl dX10_bringsOf_1 ?_
  refine lv_iload_n hx hb dX10_bringsOf_4 rfl (lv_at hl 1 rfl) ?_
  obtain ⟨g1, hF⟩ := zgd_inv hF
  refine z_iald hx hb hK hP (by decide) (zm_a (n := 6) (by decide)) rfl g1 dX10_bringsOf_5 ?_
  refine lv_iload_n hx hb dX10_bringsOf_6 rfl (lv_at hl 2 rfl) ?_
  obtain ⟨r3, σ2, hC4, hF⟩ := zbd_inv hF
  refine z_calli (va_runS (As := [.int (σ 7 (p1 : Int32).toNatClampNeg), .int p2]) (rest := []) ⟨hx, hb, hml, hown, hts⟩ (CX10_isOf l D cI cS cP ad A n σ σ2 r3 (σ 7 (p1 : Int32).toNatClampNeg) p2 hC4) (va_cwS 2 hts gX10_bringsOf_X10_isOf rfl rfl rfl (by decide +kernel) ⟨Nat.le_of_ble_eq_true rfl, Nat.le_of_ble_eq_true rfl⟩) (z_preS hN hK hP hD) rfl rfl hl.1 rfl (lv_room (Nat.le_of_ble_eq_true rfl)) dX10_bringsOf_7 ⟨Nat.zero_le _, Nat.zero_le _⟩) hS (fun H locs hP hD hS => ?_)
  refine lv_if_eq (tgt := 28) hx hb dX10_bringsOf_10 (by decide) (fun b5 => ?_) (fun b5 => ?_)
  · have hF := zif_t b5 hF
    refine lv_aload_n hx hb dX10_bringsOf_28 rfl (lv_at hl 0 rfl) ?_
    refine lv_iload_n hx hb dX10_bringsOf_29 rfl (lv_at hl 1 rfl) ?_
    obtain ⟨r7, σ6, hC8, hF⟩ := zbd_inv hF
    refine z_calli (va_runV (As := [.int p1]) (rest := []) ⟨hx, hb, hml, hown, hts⟩ (CX10_saysOf l D cI cS cP ad A n σ2 σ6 r7 p1 hC8) (cwV 1 hts gX10_bringsOf_X10_saysOf rfl rfl rfl (by decide +kernel) ⟨Nat.le_of_ble_eq_true rfl, Nat.le_of_ble_eq_true rfl⟩) (z_preV hN hK hP hD (by decide) zm_0 rfl) rfl rfl hl.1 rfl (lv_room (Nat.le_of_ble_eq_true rfl)) dX10_bringsOf_30 ⟨Nat.zero_le _, Nat.zero_le _⟩) hS (fun H locs hP hD hS => ?_)
    exact z_iret hx hb hr hlocks hN hK hP hD hS hF dX10_bringsOf_33
  · have hF := zif_f b5 hF
    refine lv_aload_n hx hb dX10_bringsOf_13 rfl (lv_at hl 0 rfl) ?_
    refine lv_iload_n hx hb dX10_bringsOf_14 rfl (lv_at hl 1 rfl) ?_
    obtain ⟨r10, σ9, hC11, hF⟩ := zbd_inv hF
    refine z_calli (va_runV (As := [.int p1]) (rest := []) ⟨hx, hb, hml, hown, hts⟩ (CX10_saysOf l D cI cS cP ad A n σ2 σ9 r10 p1 hC11) (cwV 1 hts gX10_bringsOf_X10_saysOf rfl rfl rfl (by decide +kernel) ⟨Nat.le_of_ble_eq_true rfl, Nat.le_of_ble_eq_true rfl⟩) (z_preV hN hK hP hD (by decide) zm_0 rfl) rfl rfl hl.1 rfl (lv_room (Nat.le_of_ble_eq_true rfl)) dX10_bringsOf_15 ⟨Nat.zero_le _, Nat.zero_le _⟩) hS (fun H locs hP hD hS => ?_)
    refine lv_aload_n hx hb dX10_bringsOf_18 rfl (lv_at hl 0 rfl) ?_
    refine z_get (ci := 9) (C := RX10) (T := TX10) (N := 32) hx hb hts iX10_bringsOf_X10 hown hK hP (by decide) zm_0 rfl 8 (by decide) kX10_bringsOf_f19 rfl (v := .ref (ad 4)) rfl dX10_bringsOf_19 ?_
    refine lv_iload_n hx hb dX10_bringsOf_22 rfl (lv_at hl 2 rfl) ?_
    obtain ⟨g12, hF⟩ := zgd_inv hF
    refine z_iald hx hb hK hP (by decide) (zm_a (n := 3) (by decide)) rfl g12 dX10_bringsOf_23 ?_
    refine lv_imul hx hb dX10_bringsOf_24 ?_
    refine lv_goto (tgt := 33) hx hb dX10_bringsOf_25 (by decide) ?_
    exact z_iret hx hb hr hlocks hN hK hP hD hS hF dX10_bringsOf_33
theorem kX10_firstOf_f77 : Cond.fieldLink RX10 77 "LeastAskedModel" "people" "I" ∈ wsX10_firstOf := by decide +kernel
theorem kX10_firstOf_f25 : Cond.fieldLink RX10 25 "LeastAskedModel" "asked" "[I" ∈ wsX10_firstOf := by decide +kernel
theorem iX10_firstOf_X10 : ∀ w ∈ u_ws RX10 TX10 32, w ∈ wsX10_firstOf := fun _ h => List.mem_cons_of_mem _ (List.mem_append_right _ h)
set_option maxHeartbeats 4000000 in
set_option maxRecDepth 100000 in
theorem CX10_firstOf (l : Launch) (D : va_G) (cI cS cP : ClassId) (ad : Nat → Nat) (A : Nat → Prop) (n : Nat) (σ σ' : zMem) (r0 : Int32) (hF : FX10_firstOf n σ = some (r0, σ')) : Met l yX10_firstOf wsX10_firstOf ({ frames := 0, cells := 0, slots := 0, locals := 0 } : Room) (va_Pc [.ref (ad 0)] (zB (zm cI ad) 20 ad D (zty cI cS cP) A σ)) (va_Qi (fun r u => r = r0 ∧ u = σ') (zB (zm cI ad) 20 ad D (zty cI cS cP) A) A) 0 0 A := by
  refine Met.ofW (cc := cX10_firstOf) (maxL := 3) (ret := (some .int)) (by decide) rfl ?_
  intro p e s m args below meth c s₁ B hml hv
  obtain ⟨rfl, hP, hK, hD, hN⟩ := hv
  have hx := B.exec
  have hb := B.bytes
  have hr := B.returns
  have hts := atoms_spec (ws := wsX10_firstOf) B.pre
  have hown : s.vm.findClass RX10 = some m.cls := findClass_of_methodNamed B.named
  have hlocks := B.notSynchronized
  have hS : va_S A s.heap s.heap [] := va_S.rf
  have hl := lv_entry ([.ref (ad 0)]) (n := 3) (Nat.le_of_ble_eq_true rfl)
  rw [lg_entry_eq]
  generalize (lg_sl ([.ref (ad 0)]) ++ List.replicate (3 - (lg_sl ([.ref (ad 0)])).length) Slot.unset).toArray = ls at hl ⊢
  have hl : lv_has ls 3 [(0, .ref (ad 0))] := hl
  clear B
  have hB4 : ∀ (f4 : Nat) (σ : zMem) (l1 : Int32) (l2 : Int32), ∀ (H : Heap) (locs : List Loc) (ls : Array Slot), zlp (LX10_firstOf_4 n) f4 (σ, l1, l2) = some (r0, σ') → va_P D vwCl (zW (zm cI ad) 20 ad σ) H → va_D A (zW (zm cI ad) 20 ad σ) → va_S A s.heap H locs → lv_has ls 3 [(0, .ref (ad 0)), (1, .int l1), (2, .int l2)] → W p l e (headSpec wsX10_firstOf ({ frames := 0, cells := 0, slots := 0, locals := 0 } : Room)).room s m ([.ref (ad 0)] : List Value).toArray below meth c H locs 0 0 (MQ below (va_Qi (fun r u => r = r0 ∧ u = σ') (zB (zm cI ad) 20 ad D (zty cI cS cP) A) A) ([.ref (ad 0)] : List Value).toArray s 0 0 A) (F0 m 4 ls []) := by
    intro f4
    induction f4 with
    | zero => intro σ l1 l2 H locs ls hF hP hD hS hl; exact (zlp_0 hF).elim
    | succ f4 ih4 =>
      intro σ l1 l2 H locs ls hF hP hD hS hl
      have hF : LBX10_firstOf_4 n   (zlp (LX10_firstOf_4 n) f4) σ l1 l2 = some (r0, σ') := hF
      unfold LBX10_firstOf_4 at hF
      refine lv_iload_n hx hb dX10_firstOf_4 rfl (lv_at hl 2 rfl) ?_
      refine lv_aload_n hx hb dX10_firstOf_5 rfl (lv_at hl 0 rfl) ?_
      refine z_get (ci := 9) (C := RX10) (T := TX10) (N := 32) hx hb hts iX10_firstOf_X10 hown hK hP (by decide) zm_0 rfl 5 (by decide) kX10_firstOf_f77 rfl (v := .int (σ 0 5)) rfl dX10_firstOf_6 ?_
      refine lv_icmp_ge (tgt := 39) hx hb dX10_firstOf_9 (by decide) (fun b1 => ?_) (fun b1 => ?_)
      · have hF := zif_t b1 hF
        refine lv_iload_n hx hb dX10_firstOf_39 rfl (lv_at hl 1 rfl) ?_
        exact z_iret hx hb hr hlocks hN hK hP hD hS hF dX10_firstOf_40
      · have hF := zif_f b1 hF
        refine lv_aload_n hx hb dX10_firstOf_12 rfl (lv_at hl 0 rfl) ?_
        refine z_get (ci := 9) (C := RX10) (T := TX10) (N := 32) hx hb hts iX10_firstOf_X10 hown hK hP (by decide) zm_0 rfl 10 (by decide) kX10_firstOf_f25 rfl (v := .ref (ad 6)) rfl dX10_firstOf_13 ?_
        refine lv_iload_n hx hb dX10_firstOf_16 rfl (lv_at hl 2 rfl) ?_
        obtain ⟨g2, hF⟩ := zgd_inv hF
        refine z_iald hx hb hK hP (by decide) (zm_a (n := 6) (by decide)) rfl g2 dX10_firstOf_17 ?_
        refine lv_aload_n hx hb dX10_firstOf_18 rfl (lv_at hl 0 rfl) ?_
        refine z_get (ci := 9) (C := RX10) (T := TX10) (N := 32) hx hb hts iX10_firstOf_X10 hown hK hP (by decide) zm_0 rfl 10 (by decide) kX10_firstOf_f25 rfl (v := .ref (ad 6)) rfl dX10_firstOf_19 ?_
        refine lv_iload_n hx hb dX10_firstOf_22 rfl (lv_at hl 1 rfl) ?_
        obtain ⟨g3, hF⟩ := zgd_inv hF
        refine z_iald hx hb hK hP (by decide) (zm_a (n := 6) (by decide)) rfl g3 dX10_firstOf_23 ?_
        refine lv_icmp_ge (tgt := 31) hx hb dX10_firstOf_24 (by decide) (fun b4 => ?_) (fun b4 => ?_)
        · have hF := zif_t b4 hF
          refine lv_iload_n hx hb dX10_firstOf_31 rfl (lv_at hl 1 rfl) ?_
          refine lv_istore_n (lv' := [(1, .int l1), (0, .ref (ad 0)), (2, .int l2)]) hx hb dX10_firstOf_32 rfl hl (by decide) rfl (fun ls hl => ?_)
          refine lv_iinc (v := (l2 + (1 : Int32))) (lv' := [(2, .int (l2 + (1 : Int32))), (1, .int l1), (0, .ref (ad 0))]) hx hb dX10_firstOf_33 hl (k := 2) rfl rfl (by decide) rfl (fun ls hl => ?_)
          refine lv_goto (tgt := 4) hx hb dX10_firstOf_36 (by decide) ?_
          exact ih4 σ l1 (l2 + (1 : Int32)) _ _ _ hF hP hD hS (lv_sub hl [2, 1, 0] rfl)
        · have hF := zif_f b4 hF
          refine lv_iload_n hx hb dX10_firstOf_27 rfl (lv_at hl 2 rfl) ?_
          refine lv_goto (tgt := 32) hx hb dX10_firstOf_28 (by decide) ?_
          refine lv_istore_n (lv' := [(1, .int l2), (0, .ref (ad 0)), (2, .int l2)]) hx hb dX10_firstOf_32 rfl hl (by decide) rfl (fun ls hl => ?_)
          refine lv_iinc (v := (l2 + (1 : Int32))) (lv' := [(2, .int (l2 + (1 : Int32))), (1, .int l2), (0, .ref (ad 0))]) hx hb dX10_firstOf_33 hl (k := 2) rfl rfl (by decide) rfl (fun ls hl => ?_)
          refine lv_goto (tgt := 4) hx hb dX10_firstOf_36 (by decide) ?_
          exact ih4 σ l2 (l2 + (1 : Int32)) _ _ _ hF hP hD hS (lv_sub hl [2, 1, 0] rfl)
  unfold FX10_firstOf at hF
  refine lv_iconst (v := (0 : Int32)) hx hb dX10_firstOf_0 (by decide) ?_
  refine lv_istore_n (lv' := [(1, .int (0 : Int32)), (0, .ref (ad 0))]) hx hb dX10_firstOf_1 rfl hl (by decide) rfl (fun ls hl => ?_)
  refine lv_iconst (v := (1 : Int32)) hx hb dX10_firstOf_2 (by decide) ?_
  refine lv_istore_n (lv' := [(2, .int (1 : Int32)), (1, .int (0 : Int32)), (0, .ref (ad 0))]) hx hb dX10_firstOf_3 rfl hl (by decide) rfl (fun ls hl => ?_)
  exact hB4 n σ (0 : Int32) (1 : Int32) _ _ _ hF hP hD hS (lv_sub hl [2, 1, 0] rfl)
theorem kX10_placeOf_f77 : Cond.fieldLink RX10 77 "LeastAskedModel" "people" "I" ∈ wsX10_placeOf := by decide +kernel
theorem kX10_placeOf_f25 : Cond.fieldLink RX10 25 "LeastAskedModel" "asked" "[I" ∈ wsX10_placeOf := by decide +kernel
theorem iX10_placeOf_X10 : ∀ w ∈ u_ws RX10 TX10 32, w ∈ wsX10_placeOf := fun _ h => List.mem_cons_of_mem _ (List.mem_append_right _ h)
set_option maxHeartbeats 4000000 in
set_option maxRecDepth 100000 in
theorem CX10_placeOf (l : Launch) (D : va_G) (cI cS cP : ClassId) (ad : Nat → Nat) (A : Nat → Prop) (n : Nat) (σ σ' : zMem) (r0 : Int32) (p1 : Int32) (hF : FX10_placeOf n σ p1 = some (r0, σ')) : Met l yX10_placeOf wsX10_placeOf ({ frames := 0, cells := 0, slots := 0, locals := 0 } : Room) (va_Pc [.ref (ad 0), .int p1] (zB (zm cI ad) 20 ad D (zty cI cS cP) A σ)) (va_Qi (fun r u => r = r0 ∧ u = σ') (zB (zm cI ad) 20 ad D (zty cI cS cP) A) A) 0 0 A := by
  refine Met.ofW (cc := cX10_placeOf) (maxL := 4) (ret := (some .int)) (by decide) rfl ?_
  intro p e s m args below meth c s₁ B hml hv
  obtain ⟨rfl, hP, hK, hD, hN⟩ := hv
  have hx := B.exec
  have hb := B.bytes
  have hr := B.returns
  have hts := atoms_spec (ws := wsX10_placeOf) B.pre
  have hown : s.vm.findClass RX10 = some m.cls := findClass_of_methodNamed B.named
  have hlocks := B.notSynchronized
  have hS : va_S A s.heap s.heap [] := va_S.rf
  have hl := lv_entry ([.ref (ad 0), .int p1]) (n := 4) (Nat.le_of_ble_eq_true rfl)
  rw [lg_entry_eq]
  generalize (lg_sl ([.ref (ad 0), .int p1]) ++ List.replicate (4 - (lg_sl ([.ref (ad 0), .int p1])).length) Slot.unset).toArray = ls at hl ⊢
  have hl : lv_has ls 4 [(0, .ref (ad 0)), (1, .int p1)] := hl
  clear B
  have hB4 : ∀ (f4 : Nat) (σ : zMem) (l1 : Int32) (l2 : Int32) (l3 : Int32), ∀ (H : Heap) (locs : List Loc) (ls : Array Slot), zlp (LX10_placeOf_4 n) f4 (σ, l1, l2, l3) = some (r0, σ') → va_P D vwCl (zW (zm cI ad) 20 ad σ) H → va_D A (zW (zm cI ad) 20 ad σ) → va_S A s.heap H locs → lv_has ls 4 [(0, .ref (ad 0)), (1, .int l1), (2, .int l2), (3, .int l3)] → W p l e (headSpec wsX10_placeOf ({ frames := 0, cells := 0, slots := 0, locals := 0 } : Room)).room s m ([.ref (ad 0), .int p1] : List Value).toArray below meth c H locs 0 0 (MQ below (va_Qi (fun r u => r = r0 ∧ u = σ') (zB (zm cI ad) 20 ad D (zty cI cS cP) A) A) ([.ref (ad 0), .int p1] : List Value).toArray s 0 0 A) (F0 m 4 ls []) := by
    intro f4
    induction f4 with
    | zero => intro σ l1 l2 l3 H locs ls hF hP hD hS hl; exact (zlp_0 hF).elim
    | succ f4 ih4 =>
      have hB53 : ∀ (σ : zMem) (l1 : Int32) (l2 : Int32) (l3 : Int32) (s0 : Int32) (s1 : Int32), ∀ (H : Heap) (locs : List Loc) (ls : Array Slot), BX10_placeOf_53 n (zlp (LX10_placeOf_4 n) f4) σ l1 l2 l3 s0 s1 = some (r0, σ') → va_P D vwCl (zW (zm cI ad) 20 ad σ) H → va_D A (zW (zm cI ad) 20 ad σ) → va_S A s.heap H locs → lv_has ls 4 [(0, .ref (ad 0)), (1, .int l1), (2, .int l2), (3, .int l3)] → W p l e (headSpec wsX10_placeOf ({ frames := 0, cells := 0, slots := 0, locals := 0 } : Room)).room s m ([.ref (ad 0), .int p1] : List Value).toArray below meth c H locs 0 0 (MQ below (va_Qi (fun r u => r = r0 ∧ u = σ') (zB (zm cI ad) 20 ad D (zty cI cS cP) A) A) ([.ref (ad 0), .int p1] : List Value).toArray s 0 0 A) (F0 m 53 ls [.int s1, .int s0]) := by
        intro σ l1 l2 l3 s0 s1 H locs ls hF hP hD hS hl
        unfold BX10_placeOf_53 at hF
        refine lv_iadd hx hb dX10_placeOf_53 ?_
        refine lv_istore_n (lv' := [(2, .int (s0 + s1)), (0, .ref (ad 0)), (1, .int l1), (3, .int l3)]) hx hb dX10_placeOf_54 rfl hl (by decide) rfl (fun ls hl => ?_)
        refine lv_iinc (v := (l3 + (1 : Int32))) (lv' := [(3, .int (l3 + (1 : Int32))), (2, .int (s0 + s1)), (0, .ref (ad 0)), (1, .int l1)]) hx hb dX10_placeOf_55 hl (k := 3) rfl rfl (by decide) rfl (fun ls hl => ?_)
        refine lv_goto (tgt := 4) hx hb dX10_placeOf_58 (by decide) ?_
        exact ih4 σ l1 (s0 + s1) (l3 + (1 : Int32)) _ _ _ hF hP hD hS (lv_sub hl [2, 3, 1, 0] rfl)
      have hB52 : ∀ (σ : zMem) (l1 : Int32) (l2 : Int32) (l3 : Int32) (s0 : Int32), ∀ (H : Heap) (locs : List Loc) (ls : Array Slot), BX10_placeOf_52 n (zlp (LX10_placeOf_4 n) f4) σ l1 l2 l3 s0 = some (r0, σ') → va_P D vwCl (zW (zm cI ad) 20 ad σ) H → va_D A (zW (zm cI ad) 20 ad σ) → va_S A s.heap H locs → lv_has ls 4 [(0, .ref (ad 0)), (1, .int l1), (2, .int l2), (3, .int l3)] → W p l e (headSpec wsX10_placeOf ({ frames := 0, cells := 0, slots := 0, locals := 0 } : Room)).room s m ([.ref (ad 0), .int p1] : List Value).toArray below meth c H locs 0 0 (MQ below (va_Qi (fun r u => r = r0 ∧ u = σ') (zB (zm cI ad) 20 ad D (zty cI cS cP) A) A) ([.ref (ad 0), .int p1] : List Value).toArray s 0 0 A) (F0 m 52 ls [.int s0]) := by
        intro σ l1 l2 l3 s0 H locs ls hF hP hD hS hl
        unfold BX10_placeOf_52 at hF
        refine lv_iconst (v := (0 : Int32)) hx hb dX10_placeOf_52 (by decide) ?_
        exact hB53 σ l1 l2 l3 s0 (0 : Int32) _ _ _ hF hP hD hS (lv_sub hl [0, 1, 2, 3] rfl)
      have hB48 : ∀ (σ : zMem) (l1 : Int32) (l2 : Int32) (l3 : Int32) (s0 : Int32), ∀ (H : Heap) (locs : List Loc) (ls : Array Slot), BX10_placeOf_48 n (zlp (LX10_placeOf_4 n) f4) σ l1 l2 l3 s0 = some (r0, σ') → va_P D vwCl (zW (zm cI ad) 20 ad σ) H → va_D A (zW (zm cI ad) 20 ad σ) → va_S A s.heap H locs → lv_has ls 4 [(0, .ref (ad 0)), (1, .int l1), (2, .int l2), (3, .int l3)] → W p l e (headSpec wsX10_placeOf ({ frames := 0, cells := 0, slots := 0, locals := 0 } : Room)).room s m ([.ref (ad 0), .int p1] : List Value).toArray below meth c H locs 0 0 (MQ below (va_Qi (fun r u => r = r0 ∧ u = σ') (zB (zm cI ad) 20 ad D (zty cI cS cP) A) A) ([.ref (ad 0), .int p1] : List Value).toArray s 0 0 A) (F0 m 48 ls [.int s0]) := by
        intro σ l1 l2 l3 s0 H locs ls hF hP hD hS hl
        unfold BX10_placeOf_48 at hF
        refine lv_iconst (v := (1 : Int32)) hx hb dX10_placeOf_48 (by decide) ?_
        refine lv_goto (tgt := 53) hx hb dX10_placeOf_49 (by decide) ?_
        exact hB53 σ l1 l2 l3 s0 (1 : Int32) _ _ _ hF hP hD hS (lv_sub hl [0, 1, 2, 3] rfl)
      intro σ l1 l2 l3 H locs ls hF hP hD hS hl
      have hF : LBX10_placeOf_4 n   (zlp (LX10_placeOf_4 n) f4) σ l1 l2 l3 = some (r0, σ') := hF
      unfold LBX10_placeOf_4 at hF
      refine lv_iload_n hx hb dX10_placeOf_4 rfl (lv_at hl 3 rfl) ?_
      refine lv_aload_n hx hb dX10_placeOf_5 rfl (lv_at hl 0 rfl) ?_
      refine z_get (ci := 9) (C := RX10) (T := TX10) (N := 32) hx hb hts iX10_placeOf_X10 hown hK hP (by decide) zm_0 rfl 5 (by decide) kX10_placeOf_f77 rfl (v := .int (σ 0 5)) rfl dX10_placeOf_6 ?_
      refine lv_icmp_ge (tgt := 61) hx hb dX10_placeOf_9 (by decide) (fun b1 => ?_) (fun b1 => ?_)
      · have hF := zif_t b1 hF
        refine lv_iload_n hx hb dX10_placeOf_61 rfl (lv_at hl 2 rfl) ?_
        exact z_iret hx hb hr hlocks hN hK hP hD hS hF dX10_placeOf_62
      · have hF := zif_f b1 hF
        refine lv_iload_n hx hb dX10_placeOf_12 rfl (lv_at hl 2 rfl) ?_
        refine lv_aload_n hx hb dX10_placeOf_13 rfl (lv_at hl 0 rfl) ?_
        refine z_get (ci := 9) (C := RX10) (T := TX10) (N := 32) hx hb hts iX10_placeOf_X10 hown hK hP (by decide) zm_0 rfl 10 (by decide) kX10_placeOf_f25 rfl (v := .ref (ad 6)) rfl dX10_placeOf_14 ?_
        refine lv_iload_n hx hb dX10_placeOf_17 rfl (lv_at hl 3 rfl) ?_
        obtain ⟨g2, hF⟩ := zgd_inv hF
        refine z_iald hx hb hK hP (by decide) (zm_a (n := 6) (by decide)) rfl g2 dX10_placeOf_18 ?_
        refine lv_aload_n hx hb dX10_placeOf_19 rfl (lv_at hl 0 rfl) ?_
        refine z_get (ci := 9) (C := RX10) (T := TX10) (N := 32) hx hb hts iX10_placeOf_X10 hown hK hP (by decide) zm_0 rfl 10 (by decide) kX10_placeOf_f25 rfl (v := .ref (ad 6)) rfl dX10_placeOf_20 ?_
        refine lv_iload_n hx hb dX10_placeOf_23 rfl (lv_at hl 1 rfl) ?_
        obtain ⟨g3, hF⟩ := zgd_inv hF
        refine z_iald hx hb hK hP (by decide) (zm_a (n := 6) (by decide)) rfl g3 dX10_placeOf_24 ?_
        refine lv_icmp_lt (tgt := 48) hx hb dX10_placeOf_25 (by decide) (fun b4 => ?_) (fun b4 => ?_)
        · have hF := zif_t b4 hF
          exact hB48 σ l1 l2 l3 l2 _ _ _ hF hP hD hS (lv_sub hl [0, 1, 2, 3] rfl)
        · have hF := zif_f b4 hF
          refine lv_aload_n hx hb dX10_placeOf_28 rfl (lv_at hl 0 rfl) ?_
          refine z_get (ci := 9) (C := RX10) (T := TX10) (N := 32) hx hb hts iX10_placeOf_X10 hown hK hP (by decide) zm_0 rfl 10 (by decide) kX10_placeOf_f25 rfl (v := .ref (ad 6)) rfl dX10_placeOf_29 ?_
          refine lv_iload_n hx hb dX10_placeOf_32 rfl (lv_at hl 3 rfl) ?_
          obtain ⟨g5, hF⟩ := zgd_inv hF
          refine z_iald hx hb hK hP (by decide) (zm_a (n := 6) (by decide)) rfl g5 dX10_placeOf_33 ?_
          refine lv_aload_n hx hb dX10_placeOf_34 rfl (lv_at hl 0 rfl) ?_
          refine z_get (ci := 9) (C := RX10) (T := TX10) (N := 32) hx hb hts iX10_placeOf_X10 hown hK hP (by decide) zm_0 rfl 10 (by decide) kX10_placeOf_f25 rfl (v := .ref (ad 6)) rfl dX10_placeOf_35 ?_
          refine lv_iload_n hx hb dX10_placeOf_38 rfl (lv_at hl 1 rfl) ?_
          obtain ⟨g6, hF⟩ := zgd_inv hF
          refine z_iald hx hb hK hP (by decide) (zm_a (n := 6) (by decide)) rfl g6 dX10_placeOf_39 ?_
          refine lv_icmp_ne (tgt := 52) hx hb dX10_placeOf_40 (by decide) (fun b7 => ?_) (fun b7 => ?_)
          · have hF := zif_f b7 hF
            exact hB52 σ l1 l2 l3 l2 _ _ _ hF hP hD hS (lv_sub hl [0, 1, 2, 3] rfl)
          · have hF := zif_t b7 hF
            refine lv_iload_n hx hb dX10_placeOf_43 rfl (lv_at hl 3 rfl) ?_
            refine lv_iload_n hx hb dX10_placeOf_44 rfl (lv_at hl 1 rfl) ?_
            refine lv_icmp_ge (tgt := 52) hx hb dX10_placeOf_45 (by decide) (fun b8 => ?_) (fun b8 => ?_)
            · have hF := zif_t b8 hF
              exact hB52 σ l1 l2 l3 l2 _ _ _ hF hP hD hS (lv_sub hl [0, 1, 2, 3] rfl)
            · have hF := zif_f b8 hF
              exact hB48 σ l1 l2 l3 l2 _ _ _ hF hP hD hS (lv_sub hl [0, 1, 2, 3] rfl)
  unfold FX10_placeOf at hF
  refine lv_iconst (v := (0 : Int32)) hx hb dX10_placeOf_0 (by decide) ?_
  refine lv_istore_n (lv' := [(2, .int (0 : Int32)), (0, .ref (ad 0)), (1, .int p1)]) hx hb dX10_placeOf_1 rfl hl (by decide) rfl (fun ls hl => ?_)
  refine lv_iconst (v := (0 : Int32)) hx hb dX10_placeOf_2 (by decide) ?_
  refine lv_istore_n (lv' := [(3, .int (0 : Int32)), (2, .int (0 : Int32)), (0, .ref (ad 0)), (1, .int p1)]) hx hb dX10_placeOf_3 rfl hl (by decide) rfl (fun ls hl => ?_)
  exact hB4 n σ p1 (0 : Int32) (0 : Int32) _ _ _ hF hP hD hS (lv_sub hl [2, 3, 1, 0] rfl)
theorem kX10_ofPerson_f22 : Cond.fieldLink RX10 22 "LeastAskedModel" "kind" "[I" ∈ wsX10_ofPerson := by decide +kernel
theorem kX10_ofPerson_f25 : Cond.fieldLink RX10 25 "LeastAskedModel" "asked" "[I" ∈ wsX10_ofPerson := by decide +kernel
theorem kX10_ofPerson_f28 : Cond.fieldLink RX10 28 "LeastAskedModel" "knows" "[I" ∈ wsX10_ofPerson := by decide +kernel
theorem kX10_ofPerson_f31 : Cond.fieldLink RX10 31 "LeastAskedModel" "wit" "[I" ∈ wsX10_ofPerson := by decide +kernel
theorem iX10_ofPerson_X10 : ∀ w ∈ u_ws RX10 TX10 32, w ∈ wsX10_ofPerson := fun _ h => List.mem_cons_of_mem _ (List.mem_append_right _ h)
set_option maxHeartbeats 4000000 in
set_option maxRecDepth 100000 in
theorem CX10_ofPerson (l : Launch) (D : va_G) (cI cS cP : ClassId) (ad : Nat → Nat) (A : Nat → Prop) (n : Nat) (σ σ' : zMem) (r0 : Int32) (p1 : Int32) (p2 : Int32) (hF : FX10_ofPerson n σ p1 p2 = some (r0, σ')) : Met l yX10_ofPerson wsX10_ofPerson ({ frames := 1, cells := 0, slots := 0, locals := 23 } : Room) (va_Pc [.ref (ad 0), .int p1, .int p2] (zB (zm cI ad) 20 ad D (zty cI cS cP) A σ)) (va_Qi (fun r u => r = r0 ∧ u = σ') (zB (zm cI ad) 20 ad D (zty cI cS cP) A) A) 0 0 A := by
  refine Met.ofW (cc := cX10_ofPerson) (maxL := 3) (ret := (some .int)) (by decide) rfl ?_
  intro p e s m args below meth c s₁ B hml hv
  obtain ⟨rfl, hP, hK, hD, hN⟩ := hv
  have hx := B.exec
  have hb := B.bytes
  have hr := B.returns
  have hts := atoms_spec (ws := wsX10_ofPerson) B.pre
  have hown : s.vm.findClass RX10 = some m.cls := findClass_of_methodNamed B.named
  have hlocks := B.notSynchronized
  have hS : va_S A s.heap s.heap [] := va_S.rf
  have hl := lv_entry ([.ref (ad 0), .int p1, .int p2]) (n := 3) (Nat.le_of_ble_eq_true rfl)
  rw [lg_entry_eq]
  generalize (lg_sl ([.ref (ad 0), .int p1, .int p2]) ++ List.replicate (3 - (lg_sl ([.ref (ad 0), .int p1, .int p2])).length) Slot.unset).toArray = ls at hl ⊢
  have hl : lv_has ls 3 [(0, .ref (ad 0)), (1, .int p1), (2, .int p2)] := hl
  clear B
  unfold FX10_ofPerson at hF
  refine lv_aload_n hx hb dX10_ofPerson_0 rfl (lv_at hl 0 rfl) ?_
  refine lv_iload_n hx hb dX10_ofPerson_1 rfl (lv_at hl 1 rfl) ?_
  obtain ⟨r2, σ1, hC3, hF⟩ := zbd_inv hF
  refine z_calli (va_runV (As := [.int p1]) (rest := []) ⟨hx, hb, hml, hown, hts⟩ (CX10_isPerson l D cI cS cP ad A n σ σ1 r2 p1 hC3) (cwV 1 hts gX10_ofPerson_X10_isPerson rfl rfl rfl (by decide +kernel) ⟨Nat.le_of_ble_eq_true rfl, Nat.le_of_ble_eq_true rfl⟩) (z_preV hN hK hP hD (by decide) zm_0 rfl) rfl rfl hl.1 rfl (lv_room (Nat.le_of_ble_eq_true rfl)) dX10_ofPerson_2 ⟨Nat.zero_le _, Nat.zero_le _⟩) hS (fun H locs hP hD hS => ?_)
  refine lv_if_ne (tgt := 10) hx hb dX10_ofPerson_5 (by decide) (fun b4 => ?_) (fun b4 => ?_)
  · have hF := zif_f b4 hF
    refine lv_iload_n hx hb dX10_ofPerson_10 rfl (lv_at hl 2 rfl) ?_
    by_cases b5 : p2 = (0 : Int32)
    · have hF := zif_t b5 hF
      refine lv_tableIn (tgt := 48) hx hb dX10_ofPerson_11 (by rw [b5]; decide) (by rw [b5]; decide) (by rw [b5]; rfl) (by decide) ?_
      refine lv_aload_n hx hb dX10_ofPerson_48 rfl (lv_at hl 0 rfl) ?_
      refine z_get (ci := 9) (C := RX10) (T := TX10) (N := 32) hx hb hts iX10_ofPerson_X10 hown hK hP (by decide) zm_0 rfl 9 (by decide) kX10_ofPerson_f22 rfl (v := .ref (ad 5)) rfl dX10_ofPerson_49 ?_
      refine lv_iload_n hx hb dX10_ofPerson_52 rfl (lv_at hl 1 rfl) ?_
      obtain ⟨g6, hF⟩ := zgd_inv hF
      refine z_iald hx hb hK hP (by decide) (zm_a (n := 6) (by decide)) rfl g6 dX10_ofPerson_53 ?_
      exact z_iret hx hb hr hlocks hN hK hP hD hS hF dX10_ofPerson_54
    · have hF := zif_f b5 hF
      by_cases b7 : p2 = (1 : Int32)
      · have hF := zif_t b7 hF
        refine lv_tableIn (tgt := 55) hx hb dX10_ofPerson_11 (by rw [b7]; decide) (by rw [b7]; decide) (by rw [b7]; rfl) (by decide) ?_
        refine lv_aload_n hx hb dX10_ofPerson_55 rfl (lv_at hl 0 rfl) ?_
        refine z_get (ci := 9) (C := RX10) (T := TX10) (N := 32) hx hb hts iX10_ofPerson_X10 hown hK hP (by decide) zm_0 rfl 10 (by decide) kX10_ofPerson_f25 rfl (v := .ref (ad 6)) rfl dX10_ofPerson_56 ?_
        refine lv_iload_n hx hb dX10_ofPerson_59 rfl (lv_at hl 1 rfl) ?_
        obtain ⟨g8, hF⟩ := zgd_inv hF
        refine z_iald hx hb hK hP (by decide) (zm_a (n := 6) (by decide)) rfl g8 dX10_ofPerson_60 ?_
        exact z_iret hx hb hr hlocks hN hK hP hD hS hF dX10_ofPerson_61
      · have hF := zif_f b7 hF
        by_cases b9 : p2 = (2 : Int32)
        · have hF := zif_t b9 hF
          refine lv_tableIn (tgt := 62) hx hb dX10_ofPerson_11 (by rw [b9]; decide) (by rw [b9]; decide) (by rw [b9]; rfl) (by decide) ?_
          refine lv_aload_n hx hb dX10_ofPerson_62 rfl (lv_at hl 0 rfl) ?_
          refine z_get (ci := 9) (C := RX10) (T := TX10) (N := 32) hx hb hts iX10_ofPerson_X10 hown hK hP (by decide) zm_0 rfl 11 (by decide) kX10_ofPerson_f28 rfl (v := .ref (ad 7)) rfl dX10_ofPerson_63 ?_
          refine lv_iload_n hx hb dX10_ofPerson_66 rfl (lv_at hl 1 rfl) ?_
          obtain ⟨g10, hF⟩ := zgd_inv hF
          refine z_iald hx hb hK hP (by decide) (zm_a (n := 6) (by decide)) rfl g10 dX10_ofPerson_67 ?_
          exact z_iret hx hb hr hlocks hN hK hP hD hS hF dX10_ofPerson_68
        · have hF := zif_f b9 hF
          by_cases b11 : p2 = (3 : Int32)
          · have hF := zif_t b11 hF
            refine lv_tableIn (tgt := 69) hx hb dX10_ofPerson_11 (by rw [b11]; decide) (by rw [b11]; decide) (by rw [b11]; rfl) (by decide) ?_
            refine lv_aload_n hx hb dX10_ofPerson_69 rfl (lv_at hl 0 rfl) ?_
            refine z_get (ci := 9) (C := RX10) (T := TX10) (N := 32) hx hb hts iX10_ofPerson_X10 hown hK hP (by decide) zm_0 rfl 12 (by decide) kX10_ofPerson_f31 rfl (v := .ref (ad 8)) rfl dX10_ofPerson_70 ?_
            refine lv_iload_n hx hb dX10_ofPerson_73 rfl (lv_at hl 1 rfl) ?_
            obtain ⟨g12, hF⟩ := zgd_inv hF
            refine z_iald hx hb hK hP (by decide) (zm_a (n := 6) (by decide)) rfl g12 dX10_ofPerson_74 ?_
            exact z_iret hx hb hr hlocks hN hK hP hD hS hF dX10_ofPerson_75
          · have hF := zif_f b11 hF
            by_cases b13 : p2 = (4 : Int32)
            · have hF := zif_t b13 hF
              refine lv_tableIn (tgt := 76) hx hb dX10_ofPerson_11 (by rw [b13]; decide) (by rw [b13]; decide) (by rw [b13]; rfl) (by decide) ?_
              refine lv_aload_n hx hb dX10_ofPerson_76 rfl (lv_at hl 0 rfl) ?_
              refine lv_iload_n hx hb dX10_ofPerson_77 rfl (lv_at hl 1 rfl) ?_
              obtain ⟨r15, σ14, hC16, hF⟩ := zbd_inv hF
              refine z_calli (va_runV (As := [.int p1]) (rest := []) ⟨hx, hb, hml, hown, hts⟩ (CX10_saysOf l D cI cS cP ad A n σ1 σ14 r15 p1 hC16) (cwV 1 hts gX10_ofPerson_X10_saysOf rfl rfl rfl (by decide +kernel) ⟨Nat.le_of_ble_eq_true rfl, Nat.le_of_ble_eq_true rfl⟩) (z_preV hN hK hP hD (by decide) zm_0 rfl) rfl rfl hl.1 rfl (lv_room (Nat.le_of_ble_eq_true rfl)) dX10_ofPerson_78 ⟨Nat.zero_le _, Nat.zero_le _⟩) hS (fun H locs hP hD hS => ?_)
              exact z_iret hx hb hr hlocks hN hK hP hD hS hF dX10_ofPerson_81
            · have hF := zif_f b13 hF
              by_cases b17 : p2 = (5 : Int32)
              · have hF := zif_t b17 hF
                refine lv_tableIn (tgt := 82) hx hb dX10_ofPerson_11 (by rw [b17]; decide) (by rw [b17]; decide) (by rw [b17]; rfl) (by decide) ?_
                refine lv_aload_n hx hb dX10_ofPerson_82 rfl (lv_at hl 0 rfl) ?_
                refine lv_iload_n hx hb dX10_ofPerson_83 rfl (lv_at hl 1 rfl) ?_
                obtain ⟨r19, σ18, hC20, hF⟩ := zbd_inv hF
                refine z_calli (va_runV (As := [.int p1]) (rest := []) ⟨hx, hb, hml, hown, hts⟩ (CX10_placeOf l D cI cS cP ad A n σ1 σ18 r19 p1 hC20) (cwV 1 hts gX10_ofPerson_X10_placeOf rfl rfl rfl (by decide +kernel) ⟨Nat.le_of_ble_eq_true rfl, Nat.le_of_ble_eq_true rfl⟩) (z_preV hN hK hP hD (by decide) zm_0 rfl) rfl rfl hl.1 rfl (lv_room (Nat.le_of_ble_eq_true rfl)) dX10_ofPerson_84 ⟨Nat.zero_le _, Nat.zero_le _⟩) hS (fun H locs hP hD hS => ?_)
                exact z_iret hx hb hr hlocks hN hK hP hD hS hF dX10_ofPerson_87
              · have hF := zif_f b17 hF
                refine lv_tableOut (tgt := 88) hx hb dX10_ofPerson_11 (by have nb5 := lv_neT b5 (a := 0) (by decide); have nb7 := lv_neT b7 (a := 1) (by decide); have nb9 := lv_neT b9 (a := 2) (by decide); have nb11 := lv_neT b11 (a := 3) (by decide); have nb13 := lv_neT b13 (a := 4) (by decide); have nb17 := lv_neT b17 (a := 5) (by decide); omega) (by decide) ?_
                refine lv_bipush (v := (-2 : Int32)) hx hb dX10_ofPerson_88 (by decide) ?_
                exact z_iret hx hb hr hlocks hN hK hP hD hS hF dX10_ofPerson_90
  · have hF := zif_t b4 hF
    refine lv_iconst (v := (-1 : Int32)) hx hb dX10_ofPerson_8 (by decide) ?_
    exact z_iret hx hb hr hlocks hN hK hP hD hS hF dX10_ofPerson_9
theorem kX10_worth_f19 : Cond.fieldLink RX10 19 "LeastAskedModel" "worths" "[I" ∈ wsX10_worth := by decide +kernel
theorem iX10_worth_X10 : ∀ w ∈ u_ws RX10 TX10 32, w ∈ wsX10_worth := fun _ h => List.mem_cons_of_mem _ (List.mem_append_right _ h)
set_option maxHeartbeats 4000000 in
set_option maxRecDepth 100000 in
theorem CX10_worth (l : Launch) (D : va_G) (cI cS cP : ClassId) (ad : Nat → Nat) (A : Nat → Prop) (n : Nat) (σ σ' : zMem) (r0 : Int32) (p1 : Int32) (hF : FX10_worth n σ p1 = some (r0, σ')) : Met l yX10_worth wsX10_worth ({ frames := 1, cells := 0, slots := 0, locals := 21 } : Room) (va_Pc [.ref (ad 0), .int p1] (zB (zm cI ad) 20 ad D (zty cI cS cP) A σ)) (va_Qi (fun r u => r = r0 ∧ u = σ') (zB (zm cI ad) 20 ad D (zty cI cS cP) A) A) 0 0 A := by
  refine Met.ofW (cc := cX10_worth) (maxL := 2) (ret := (some .int)) (by decide) rfl ?_
  intro p e s m args below meth c s₁ B hml hv
  obtain ⟨rfl, hP, hK, hD, hN⟩ := hv
  have hx := B.exec
  have hb := B.bytes
  have hr := B.returns
  have hts := atoms_spec (ws := wsX10_worth) B.pre
  have hown : s.vm.findClass RX10 = some m.cls := findClass_of_methodNamed B.named
  have hlocks := B.notSynchronized
  have hS : va_S A s.heap s.heap [] := va_S.rf
  have hl := lv_entry ([.ref (ad 0), .int p1]) (n := 2) (Nat.le_of_ble_eq_true rfl)
  rw [lg_entry_eq]
  generalize (lg_sl ([.ref (ad 0), .int p1]) ++ List.replicate (2 - (lg_sl ([.ref (ad 0), .int p1])).length) Slot.unset).toArray = ls at hl ⊢
  have hl : lv_has ls 2 [(0, .ref (ad 0)), (1, .int p1)] := hl
  clear B
  unfold FX10_worth at hF
  refine lv_aload_n hx hb dX10_worth_0 rfl (lv_at hl 0 rfl) ?_
  refine lv_iload_n hx hb dX10_worth_1 rfl (lv_at hl 1 rfl) ?_
  obtain ⟨r2, σ1, hC3, hF⟩ := zbd_inv hF
  refine z_calli (va_runV (As := [.int p1]) (rest := []) ⟨hx, hb, hml, hown, hts⟩ (CX10_isMatter l D cI cS cP ad A n σ σ1 r2 p1 hC3) (cwV 1 hts gX10_worth_X10_isMatter rfl rfl rfl (by decide +kernel) ⟨Nat.le_of_ble_eq_true rfl, Nat.le_of_ble_eq_true rfl⟩) (z_preV hN hK hP hD (by decide) zm_0 rfl) rfl rfl hl.1 rfl (lv_room (Nat.le_of_ble_eq_true rfl)) dX10_worth_2 ⟨Nat.zero_le _, Nat.zero_le _⟩) hS (fun H locs hP hD hS => ?_)
  refine lv_if_eq (tgt := 17) hx hb dX10_worth_5 (by decide) (fun b4 => ?_) (fun b4 => ?_)
  · have hF := zif_t b4 hF
    refine lv_iconst (v := (-1 : Int32)) hx hb dX10_worth_17 (by decide) ?_
    exact z_iret hx hb hr hlocks hN hK hP hD hS hF dX10_worth_18
  · have hF := zif_f b4 hF
    refine lv_aload_n hx hb dX10_worth_8 rfl (lv_at hl 0 rfl) ?_
    refine z_get (ci := 9) (C := RX10) (T := TX10) (N := 32) hx hb hts iX10_worth_X10 hown hK hP (by decide) zm_0 rfl 8 (by decide) kX10_worth_f19 rfl (v := .ref (ad 4)) rfl dX10_worth_9 ?_
    refine lv_iload_n hx hb dX10_worth_12 rfl (lv_at hl 1 rfl) ?_
    obtain ⟨g5, hF⟩ := zgd_inv hF
    refine z_iald hx hb hK hP (by decide) (zm_a (n := 3) (by decide)) rfl g5 dX10_worth_13 ?_
    refine lv_goto (tgt := 18) hx hb dX10_worth_14 (by decide) ?_
    exact z_iret hx hb hr hlocks hN hK hP hD hS hF dX10_worth_18
theorem kX10_weigh_f19 : Cond.fieldLink RX10 19 "LeastAskedModel" "worths" "[I" ∈ wsX10_weigh := by decide +kernel
theorem iX10_weigh_X10 : ∀ w ∈ u_ws RX10 TX10 32, w ∈ wsX10_weigh := fun _ h => List.mem_cons_of_mem _ (List.mem_append_right _ h)
set_option maxHeartbeats 4000000 in
set_option maxRecDepth 100000 in
theorem CX10_weigh (l : Launch) (D : va_G) (cI cS cP : ClassId) (ad : Nat → Nat) (A : Nat → Prop) (n : Nat) (σ σ' : zMem) (r0 : Int32) (p1 : Int32) (p2 : Int32) (hF : FX10_weigh n σ p1 p2 = some (r0, σ')) : Met l yX10_weigh wsX10_weigh ({ frames := 1, cells := 0, slots := 0, locals := 22 } : Room) (va_Pc [.ref (ad 0), .int p1, .int p2] (zB (zm cI ad) 20 ad D (zty cI cS cP) A σ)) (va_Qi (fun r u => r = r0 ∧ u = σ') (zB (zm cI ad) 20 ad D (zty cI cS cP) A) A) 0 0 A := by
  refine Met.ofW (cc := cX10_weigh) (maxL := 4) (ret := (some .int)) (by decide) rfl ?_
  intro p e s m args below meth c s₁ B hml hv
  obtain ⟨rfl, hP, hK, hD, hN⟩ := hv
  have hx := B.exec
  have hb := B.bytes
  have hr := B.returns
  have hts := atoms_spec (ws := wsX10_weigh) B.pre
  have hown : s.vm.findClass RX10 = some m.cls := findClass_of_methodNamed B.named
  have hlocks := B.notSynchronized
  have hS : va_S A s.heap s.heap [] := va_S.rf
  have hl := lv_entry ([.ref (ad 0), .int p1, .int p2]) (n := 4) (Nat.le_of_ble_eq_true rfl)
  rw [lg_entry_eq]
  generalize (lg_sl ([.ref (ad 0), .int p1, .int p2]) ++ List.replicate (4 - (lg_sl ([.ref (ad 0), .int p1, .int p2])).length) Slot.unset).toArray = ls at hl ⊢
  have hl : lv_has ls 4 [(0, .ref (ad 0)), (1, .int p1), (2, .int p2)] := hl
  clear B
  unfold FX10_weigh at hF
  refine lv_aload_n hx hb dX10_weigh_0 rfl (lv_at hl 0 rfl) ?_
  refine lv_iload_n hx hb dX10_weigh_1 rfl (lv_at hl 1 rfl) ?_
  obtain ⟨r2, σ1, hC3, hF⟩ := zbd_inv hF
  refine z_calli (va_runV (As := [.int p1]) (rest := []) ⟨hx, hb, hml, hown, hts⟩ (CX10_isMatter l D cI cS cP ad A n σ σ1 r2 p1 hC3) (cwV 1 hts gX10_weigh_X10_isMatter rfl rfl rfl (by decide +kernel) ⟨Nat.le_of_ble_eq_true rfl, Nat.le_of_ble_eq_true rfl⟩) (z_preV hN hK hP hD (by decide) zm_0 rfl) rfl rfl hl.1 rfl (lv_room (Nat.le_of_ble_eq_true rfl)) dX10_weigh_2 ⟨Nat.zero_le _, Nat.zero_le _⟩) hS (fun H locs hP hD hS => ?_)
  refine lv_if_ne (tgt := 10) hx hb dX10_weigh_5 (by decide) (fun b4 => ?_) (fun b4 => ?_)
  · have hF := zif_f b4 hF
    refine lv_iload_n hx hb dX10_weigh_10 rfl (lv_at hl 2 rfl) ?_
    refine lv_iconst (v := (0 : Int32)) hx hb dX10_weigh_11 (by decide) ?_
    refine lv_bipush (v := (9 : Int32)) hx hb dX10_weigh_12 (by decide) ?_
    obtain ⟨r6, σ5, hC7, hF⟩ := zbd_inv hF
    refine z_calli (va_runS (As := [.int p2, .int (0 : Int32), .int (9 : Int32)]) (rest := []) ⟨hx, hb, hml, hown, hts⟩ (CX10_within l D cI cS cP ad A n σ1 σ5 r6 p2 (0 : Int32) (9 : Int32) hC7) (va_cwS 3 hts gX10_weigh_X10_within rfl rfl rfl (by decide +kernel) ⟨Nat.le_of_ble_eq_true rfl, Nat.le_of_ble_eq_true rfl⟩) (z_preS hN hK hP hD) rfl rfl hl.1 rfl (lv_room (Nat.le_of_ble_eq_true rfl)) dX10_weigh_14 ⟨Nat.zero_le _, Nat.zero_le _⟩) hS (fun H locs hP hD hS => ?_)
    refine lv_if_ne (tgt := 23) hx hb dX10_weigh_17 (by decide) (fun b8 => ?_) (fun b8 => ?_)
    · have hF := zif_f b8 hF
      refine lv_aload_n hx hb dX10_weigh_23 rfl (lv_at hl 0 rfl) ?_
      refine z_get (ci := 9) (C := RX10) (T := TX10) (N := 32) hx hb hts iX10_weigh_X10 hown hK hP (by decide) zm_0 rfl 8 (by decide) kX10_weigh_f19 rfl (v := .ref (ad 4)) rfl dX10_weigh_24 ?_
      refine lv_iload_n hx hb dX10_weigh_27 rfl (lv_at hl 1 rfl) ?_
      obtain ⟨g9, hF⟩ := zgd_inv hF
      refine z_iald hx hb hK hP (by decide) (zm_a (n := 3) (by decide)) rfl g9 dX10_weigh_28 ?_
      refine lv_istore_n (lv' := [(3, .int (σ5 4 (p1 : Int32).toNatClampNeg)), (0, .ref (ad 0)), (1, .int p1), (2, .int p2)]) hx hb dX10_weigh_29 rfl hl (by decide) rfl (fun ls hl => ?_)
      refine lv_aload_n hx hb dX10_weigh_30 rfl (lv_at hl 1 rfl) ?_
      refine z_get (ci := 9) (C := RX10) (T := TX10) (N := 32) hx hb hts iX10_weigh_X10 hown hK hP (by decide) zm_0 rfl 8 (by decide) kX10_weigh_f19 rfl (v := .ref (ad 4)) rfl dX10_weigh_31 ?_
      refine lv_iload_n hx hb dX10_weigh_34 rfl (lv_at hl 2 rfl) ?_
      refine lv_iload_n hx hb dX10_weigh_35 rfl (lv_at hl 3 rfl) ?_
      obtain ⟨g10, hF⟩ := zgd_inv hF
      obtain ⟨σ11, eσ11, hF⟩ := zlet_inv hF
      refine z_iast hx hb hK hP hD hS (by decide) (fun _ => (zm_a (n := 3) (by decide))) rfl g10 dX10_weigh_36 (fun H locs hP hD hS => ?_)
      have hP : va_P D vwCl (zW (zm cI ad) 20 ad σ11) H := by rw [eσ11]; exact hP
      have hD : va_D A (zW (zm cI ad) 20 ad σ11) := by rw [eσ11]; exact hD
      refine lv_iload_n hx hb dX10_weigh_37 rfl (lv_at hl 0 rfl) ?_
      exact z_iret hx hb hr hlocks hN hK hP hD hS hF dX10_weigh_38
    · have hF := zif_t b8 hF
      refine lv_bipush (v := (-2 : Int32)) hx hb dX10_weigh_20 (by decide) ?_
      exact z_iret hx hb hr hlocks hN hK hP hD hS hF dX10_weigh_22
  · have hF := zif_t b4 hF
    refine lv_iconst (v := (-1 : Int32)) hx hb dX10_weigh_8 (by decide) ?_
    exact z_iret hx hb hr hlocks hN hK hP hD hS hF dX10_weigh_9
theorem kX10_teach_f28 : Cond.fieldLink RX10 28 "LeastAskedModel" "knows" "[I" ∈ wsX10_teach := by decide +kernel
theorem iX10_teach_X10 : ∀ w ∈ u_ws RX10 TX10 32, w ∈ wsX10_teach := fun _ h => List.mem_cons_of_mem _ (List.mem_append_right _ h)
set_option maxHeartbeats 4000000 in
set_option maxRecDepth 100000 in
theorem CX10_teach (l : Launch) (D : va_G) (cI cS cP : ClassId) (ad : Nat → Nat) (A : Nat → Prop) (n : Nat) (σ σ' : zMem) (r0 : Int32) (p1 : Int32) (p2 : Int32) (hF : FX10_teach n σ p1 p2 = some (r0, σ')) : Met l yX10_teach wsX10_teach ({ frames := 1, cells := 0, slots := 0, locals := 22 } : Room) (va_Pc [.ref (ad 0), .int p1, .int p2] (zB (zm cI ad) 20 ad D (zty cI cS cP) A σ)) (va_Qi (fun r u => r = r0 ∧ u = σ') (zB (zm cI ad) 20 ad D (zty cI cS cP) A) A) 0 0 A := by
  refine Met.ofW (cc := cX10_teach) (maxL := 4) (ret := (some .int)) (by decide) rfl ?_
  intro p e s m args below meth c s₁ B hml hv
  obtain ⟨rfl, hP, hK, hD, hN⟩ := hv
  have hx := B.exec
  have hb := B.bytes
  have hr := B.returns
  have hts := atoms_spec (ws := wsX10_teach) B.pre
  have hown : s.vm.findClass RX10 = some m.cls := findClass_of_methodNamed B.named
  have hlocks := B.notSynchronized
  have hS : va_S A s.heap s.heap [] := va_S.rf
  have hl := lv_entry ([.ref (ad 0), .int p1, .int p2]) (n := 4) (Nat.le_of_ble_eq_true rfl)
  rw [lg_entry_eq]
  generalize (lg_sl ([.ref (ad 0), .int p1, .int p2]) ++ List.replicate (4 - (lg_sl ([.ref (ad 0), .int p1, .int p2])).length) Slot.unset).toArray = ls at hl ⊢
  have hl : lv_has ls 4 [(0, .ref (ad 0)), (1, .int p1), (2, .int p2)] := hl
  clear B
  unfold FX10_teach at hF
  refine lv_aload_n hx hb dX10_teach_0 rfl (lv_at hl 0 rfl) ?_
  refine lv_iload_n hx hb dX10_teach_1 rfl (lv_at hl 1 rfl) ?_
  obtain ⟨r2, σ1, hC3, hF⟩ := zbd_inv hF
  refine z_calli (va_runV (As := [.int p1]) (rest := []) ⟨hx, hb, hml, hown, hts⟩ (CX10_isPerson l D cI cS cP ad A n σ σ1 r2 p1 hC3) (cwV 1 hts gX10_teach_X10_isPerson rfl rfl rfl (by decide +kernel) ⟨Nat.le_of_ble_eq_true rfl, Nat.le_of_ble_eq_true rfl⟩) (z_preV hN hK hP hD (by decide) zm_0 rfl) rfl rfl hl.1 rfl (lv_room (Nat.le_of_ble_eq_true rfl)) dX10_teach_2 ⟨Nat.zero_le _, Nat.zero_le _⟩) hS (fun H locs hP hD hS => ?_)
  refine lv_if_ne (tgt := 10) hx hb dX10_teach_5 (by decide) (fun b4 => ?_) (fun b4 => ?_)
  · have hF := zif_f b4 hF
    refine lv_iload_n hx hb dX10_teach_10 rfl (lv_at hl 2 rfl) ?_
    refine lv_iconst (v := (0 : Int32)) hx hb dX10_teach_11 (by decide) ?_
    refine lv_bipush (v := (7 : Int32)) hx hb dX10_teach_12 (by decide) ?_
    obtain ⟨r6, σ5, hC7, hF⟩ := zbd_inv hF
    refine z_calli (va_runS (As := [.int p2, .int (0 : Int32), .int (7 : Int32)]) (rest := []) ⟨hx, hb, hml, hown, hts⟩ (CX10_within l D cI cS cP ad A n σ1 σ5 r6 p2 (0 : Int32) (7 : Int32) hC7) (va_cwS 3 hts gX10_teach_X10_within rfl rfl rfl (by decide +kernel) ⟨Nat.le_of_ble_eq_true rfl, Nat.le_of_ble_eq_true rfl⟩) (z_preS hN hK hP hD) rfl rfl hl.1 rfl (lv_room (Nat.le_of_ble_eq_true rfl)) dX10_teach_14 ⟨Nat.zero_le _, Nat.zero_le _⟩) hS (fun H locs hP hD hS => ?_)
    refine lv_if_ne (tgt := 23) hx hb dX10_teach_17 (by decide) (fun b8 => ?_) (fun b8 => ?_)
    · have hF := zif_f b8 hF
      refine lv_aload_n hx hb dX10_teach_23 rfl (lv_at hl 0 rfl) ?_
      refine z_get (ci := 9) (C := RX10) (T := TX10) (N := 32) hx hb hts iX10_teach_X10 hown hK hP (by decide) zm_0 rfl 11 (by decide) kX10_teach_f28 rfl (v := .ref (ad 7)) rfl dX10_teach_24 ?_
      refine lv_iload_n hx hb dX10_teach_27 rfl (lv_at hl 1 rfl) ?_
      obtain ⟨g9, hF⟩ := zgd_inv hF
      refine z_iald hx hb hK hP (by decide) (zm_a (n := 6) (by decide)) rfl g9 dX10_teach_28 ?_
      refine lv_istore_n (lv' := [(3, .int (σ5 7 (p1 : Int32).toNatClampNeg)), (0, .ref (ad 0)), (1, .int p1), (2, .int p2)]) hx hb dX10_teach_29 rfl hl (by decide) rfl (fun ls hl => ?_)
      refine lv_aload_n hx hb dX10_teach_30 rfl (lv_at hl 1 rfl) ?_
      refine z_get (ci := 9) (C := RX10) (T := TX10) (N := 32) hx hb hts iX10_teach_X10 hown hK hP (by decide) zm_0 rfl 11 (by decide) kX10_teach_f28 rfl (v := .ref (ad 7)) rfl dX10_teach_31 ?_
      refine lv_iload_n hx hb dX10_teach_34 rfl (lv_at hl 2 rfl) ?_
      refine lv_iload_n hx hb dX10_teach_35 rfl (lv_at hl 3 rfl) ?_
      obtain ⟨g10, hF⟩ := zgd_inv hF
      obtain ⟨σ11, eσ11, hF⟩ := zlet_inv hF
      refine z_iast hx hb hK hP hD hS (by decide) (fun _ => (zm_a (n := 6) (by decide))) rfl g10 dX10_teach_36 (fun H locs hP hD hS => ?_)
      have hP : va_P D vwCl (zW (zm cI ad) 20 ad σ11) H := by rw [eσ11]; exact hP
      have hD : va_D A (zW (zm cI ad) 20 ad σ11) := by rw [eσ11]; exact hD
      refine lv_iload_n hx hb dX10_teach_37 rfl (lv_at hl 0 rfl) ?_
      exact z_iret hx hb hr hlocks hN hK hP hD hS hF dX10_teach_38
    · have hF := zif_t b8 hF
      refine lv_bipush (v := (-2 : Int32)) hx hb dX10_teach_20 (by decide) ?_
      exact z_iret hx hb hr hlocks hN hK hP hD hS hF dX10_teach_22
  · have hF := zif_t b4 hF
    refine lv_iconst (v := (-1 : Int32)) hx hb dX10_teach_8 (by decide) ?_
    exact z_iret hx hb hr hlocks hN hK hP hD hS hF dX10_teach_9
theorem kX10_sharpen_f31 : Cond.fieldLink RX10 31 "LeastAskedModel" "wit" "[I" ∈ wsX10_sharpen := by decide +kernel
theorem iX10_sharpen_X10 : ∀ w ∈ u_ws RX10 TX10 32, w ∈ wsX10_sharpen := fun _ h => List.mem_cons_of_mem _ (List.mem_append_right _ h)
set_option maxHeartbeats 4000000 in
set_option maxRecDepth 100000 in
theorem CX10_sharpen (l : Launch) (D : va_G) (cI cS cP : ClassId) (ad : Nat → Nat) (A : Nat → Prop) (n : Nat) (σ σ' : zMem) (r0 : Int32) (p1 : Int32) (p2 : Int32) (hF : FX10_sharpen n σ p1 p2 = some (r0, σ')) : Met l yX10_sharpen wsX10_sharpen ({ frames := 1, cells := 0, slots := 0, locals := 22 } : Room) (va_Pc [.ref (ad 0), .int p1, .int p2] (zB (zm cI ad) 20 ad D (zty cI cS cP) A σ)) (va_Qi (fun r u => r = r0 ∧ u = σ') (zB (zm cI ad) 20 ad D (zty cI cS cP) A) A) 0 0 A := by
  refine Met.ofW (cc := cX10_sharpen) (maxL := 4) (ret := (some .int)) (by decide) rfl ?_
  intro p e s m args below meth c s₁ B hml hv
  obtain ⟨rfl, hP, hK, hD, hN⟩ := hv
  have hx := B.exec
  have hb := B.bytes
  have hr := B.returns
  have hts := atoms_spec (ws := wsX10_sharpen) B.pre
  have hown : s.vm.findClass RX10 = some m.cls := findClass_of_methodNamed B.named
  have hlocks := B.notSynchronized
  have hS : va_S A s.heap s.heap [] := va_S.rf
  have hl := lv_entry ([.ref (ad 0), .int p1, .int p2]) (n := 4) (Nat.le_of_ble_eq_true rfl)
  rw [lg_entry_eq]
  generalize (lg_sl ([.ref (ad 0), .int p1, .int p2]) ++ List.replicate (4 - (lg_sl ([.ref (ad 0), .int p1, .int p2])).length) Slot.unset).toArray = ls at hl ⊢
  have hl : lv_has ls 4 [(0, .ref (ad 0)), (1, .int p1), (2, .int p2)] := hl
  clear B
  unfold FX10_sharpen at hF
  refine lv_aload_n hx hb dX10_sharpen_0 rfl (lv_at hl 0 rfl) ?_
  refine lv_iload_n hx hb dX10_sharpen_1 rfl (lv_at hl 1 rfl) ?_
  obtain ⟨r2, σ1, hC3, hF⟩ := zbd_inv hF
  refine z_calli (va_runV (As := [.int p1]) (rest := []) ⟨hx, hb, hml, hown, hts⟩ (CX10_isPerson l D cI cS cP ad A n σ σ1 r2 p1 hC3) (cwV 1 hts gX10_sharpen_X10_isPerson rfl rfl rfl (by decide +kernel) ⟨Nat.le_of_ble_eq_true rfl, Nat.le_of_ble_eq_true rfl⟩) (z_preV hN hK hP hD (by decide) zm_0 rfl) rfl rfl hl.1 rfl (lv_room (Nat.le_of_ble_eq_true rfl)) dX10_sharpen_2 ⟨Nat.zero_le _, Nat.zero_le _⟩) hS (fun H locs hP hD hS => ?_)
  refine lv_if_ne (tgt := 10) hx hb dX10_sharpen_5 (by decide) (fun b4 => ?_) (fun b4 => ?_)
  · have hF := zif_f b4 hF
    refine lv_iload_n hx hb dX10_sharpen_10 rfl (lv_at hl 2 rfl) ?_
    refine lv_iconst (v := (0 : Int32)) hx hb dX10_sharpen_11 (by decide) ?_
    refine lv_bipush (v := (9 : Int32)) hx hb dX10_sharpen_12 (by decide) ?_
    obtain ⟨r6, σ5, hC7, hF⟩ := zbd_inv hF
    refine z_calli (va_runS (As := [.int p2, .int (0 : Int32), .int (9 : Int32)]) (rest := []) ⟨hx, hb, hml, hown, hts⟩ (CX10_within l D cI cS cP ad A n σ1 σ5 r6 p2 (0 : Int32) (9 : Int32) hC7) (va_cwS 3 hts gX10_sharpen_X10_within rfl rfl rfl (by decide +kernel) ⟨Nat.le_of_ble_eq_true rfl, Nat.le_of_ble_eq_true rfl⟩) (z_preS hN hK hP hD) rfl rfl hl.1 rfl (lv_room (Nat.le_of_ble_eq_true rfl)) dX10_sharpen_14 ⟨Nat.zero_le _, Nat.zero_le _⟩) hS (fun H locs hP hD hS => ?_)
    refine lv_if_ne (tgt := 23) hx hb dX10_sharpen_17 (by decide) (fun b8 => ?_) (fun b8 => ?_)
    · have hF := zif_f b8 hF
      refine lv_aload_n hx hb dX10_sharpen_23 rfl (lv_at hl 0 rfl) ?_
      refine z_get (ci := 9) (C := RX10) (T := TX10) (N := 32) hx hb hts iX10_sharpen_X10 hown hK hP (by decide) zm_0 rfl 12 (by decide) kX10_sharpen_f31 rfl (v := .ref (ad 8)) rfl dX10_sharpen_24 ?_
      refine lv_iload_n hx hb dX10_sharpen_27 rfl (lv_at hl 1 rfl) ?_
      obtain ⟨g9, hF⟩ := zgd_inv hF
      refine z_iald hx hb hK hP (by decide) (zm_a (n := 6) (by decide)) rfl g9 dX10_sharpen_28 ?_
      refine lv_istore_n (lv' := [(3, .int (σ5 8 (p1 : Int32).toNatClampNeg)), (0, .ref (ad 0)), (1, .int p1), (2, .int p2)]) hx hb dX10_sharpen_29 rfl hl (by decide) rfl (fun ls hl => ?_)
      refine lv_aload_n hx hb dX10_sharpen_30 rfl (lv_at hl 1 rfl) ?_
      refine z_get (ci := 9) (C := RX10) (T := TX10) (N := 32) hx hb hts iX10_sharpen_X10 hown hK hP (by decide) zm_0 rfl 12 (by decide) kX10_sharpen_f31 rfl (v := .ref (ad 8)) rfl dX10_sharpen_31 ?_
      refine lv_iload_n hx hb dX10_sharpen_34 rfl (lv_at hl 2 rfl) ?_
      refine lv_iload_n hx hb dX10_sharpen_35 rfl (lv_at hl 3 rfl) ?_
      obtain ⟨g10, hF⟩ := zgd_inv hF
      obtain ⟨σ11, eσ11, hF⟩ := zlet_inv hF
      refine z_iast hx hb hK hP hD hS (by decide) (fun _ => (zm_a (n := 6) (by decide))) rfl g10 dX10_sharpen_36 (fun H locs hP hD hS => ?_)
      have hP : va_P D vwCl (zW (zm cI ad) 20 ad σ11) H := by rw [eσ11]; exact hP
      have hD : va_D A (zW (zm cI ad) 20 ad σ11) := by rw [eσ11]; exact hD
      refine lv_iload_n hx hb dX10_sharpen_37 rfl (lv_at hl 0 rfl) ?_
      exact z_iret hx hb hr hlocks hN hK hP hD hS hF dX10_sharpen_38
    · have hF := zif_t b8 hF
      refine lv_bipush (v := (-2 : Int32)) hx hb dX10_sharpen_20 (by decide) ?_
      exact z_iret hx hb hr hlocks hN hK hP hD hS hF dX10_sharpen_22
  · have hF := zif_t b4 hF
    refine lv_iconst (v := (-1 : Int32)) hx hb dX10_sharpen_8 (by decide) ?_
    exact z_iret hx hb hr hlocks hN hK hP hD hS hF dX10_sharpen_9
set_option maxHeartbeats 4000000 in
set_option maxRecDepth 100000 in
theorem CX10_brings (l : Launch) (D : va_G) (cI cS cP : ClassId) (ad : Nat → Nat) (A : Nat → Prop) (n : Nat) (σ σ' : zMem) (r0 : Int32) (p1 : Int32) (p2 : Int32) (hF : FX10_brings n σ p1 p2 = some (r0, σ')) : Met l yX10_brings wsX10_brings ({ frames := 2, cells := 0, slots := 0, locals := 43 } : Room) (va_Pc [.ref (ad 0), .int p1, .int p2] (zB (zm cI ad) 20 ad D (zty cI cS cP) A σ)) (va_Qi (fun r u => r = r0 ∧ u = σ') (zB (zm cI ad) 20 ad D (zty cI cS cP) A) A) 0 0 A := by
  refine Met.ofW (cc := cX10_brings) (maxL := 3) (ret := (some .int)) (by decide) rfl ?_
  intro p e s m args below meth c s₁ B hml hv
  obtain ⟨rfl, hP, hK, hD, hN⟩ := hv
  have hx := B.exec
  have hb := B.bytes
  have hr := B.returns
  have hts := atoms_spec (ws := wsX10_brings) B.pre
  have hown : s.vm.findClass RX10 = some m.cls := findClass_of_methodNamed B.named
  have hlocks := B.notSynchronized
  have hS : va_S A s.heap s.heap [] := va_S.rf
  have hl := lv_entry ([.ref (ad 0), .int p1, .int p2]) (n := 3) (Nat.le_of_ble_eq_true rfl)
  rw [lg_entry_eq]
  generalize (lg_sl ([.ref (ad 0), .int p1, .int p2]) ++ List.replicate (3 - (lg_sl ([.ref (ad 0), .int p1, .int p2])).length) Slot.unset).toArray = ls at hl ⊢
  have hl : lv_has ls 3 [(0, .ref (ad 0)), (1, .int p1), (2, .int p2)] := hl
  clear B
  unfold FX10_brings at hF
  refine lv_aload_n hx hb dX10_brings_0 rfl (lv_at hl 0 rfl) ?_
  refine lv_iload_n hx hb dX10_brings_1 rfl (lv_at hl 1 rfl) ?_
  obtain ⟨r2, σ1, hC3, hF⟩ := zbd_inv hF
  refine z_calli (va_runV (As := [.int p1]) (rest := []) ⟨hx, hb, hml, hown, hts⟩ (CX10_isPerson l D cI cS cP ad A n σ σ1 r2 p1 hC3) (cwV 1 hts gX10_brings_X10_isPerson rfl rfl rfl (by decide +kernel) ⟨Nat.le_of_ble_eq_true rfl, Nat.le_of_ble_eq_true rfl⟩) (z_preV hN hK hP hD (by decide) zm_0 rfl) rfl rfl hl.1 rfl (lv_room (Nat.le_of_ble_eq_true rfl)) dX10_brings_2 ⟨Nat.zero_le _, Nat.zero_le _⟩) hS (fun H locs hP hD hS => ?_)
  refine lv_if_eq (tgt := 25) hx hb dX10_brings_5 (by decide) (fun b4 => ?_) (fun b4 => ?_)
  · have hF := zif_t b4 hF
    refine lv_iconst (v := (-1 : Int32)) hx hb dX10_brings_25 (by decide) ?_
    exact z_iret hx hb hr hlocks hN hK hP hD hS hF dX10_brings_26
  · have hF := zif_f b4 hF
    refine lv_aload_n hx hb dX10_brings_8 rfl (lv_at hl 0 rfl) ?_
    refine lv_iload_n hx hb dX10_brings_9 rfl (lv_at hl 2 rfl) ?_
    obtain ⟨r6, σ5, hC7, hF⟩ := zbd_inv hF
    refine z_calli (va_runV (As := [.int p2]) (rest := []) ⟨hx, hb, hml, hown, hts⟩ (CX10_isMatter l D cI cS cP ad A n σ1 σ5 r6 p2 hC7) (cwV 1 hts gX10_brings_X10_isMatter rfl rfl rfl (by decide +kernel) ⟨Nat.le_of_ble_eq_true rfl, Nat.le_of_ble_eq_true rfl⟩) (z_preV hN hK hP hD (by decide) zm_0 rfl) rfl rfl hl.1 rfl (lv_room (Nat.le_of_ble_eq_true rfl)) dX10_brings_10 ⟨Nat.zero_le _, Nat.zero_le _⟩) hS (fun H locs hP hD hS => ?_)
    refine lv_if_eq (tgt := 25) hx hb dX10_brings_13 (by decide) (fun b8 => ?_) (fun b8 => ?_)
    · have hF := zif_t b8 hF
      refine lv_iconst (v := (-1 : Int32)) hx hb dX10_brings_25 (by decide) ?_
      exact z_iret hx hb hr hlocks hN hK hP hD hS hF dX10_brings_26
    · have hF := zif_f b8 hF
      refine lv_aload_n hx hb dX10_brings_16 rfl (lv_at hl 0 rfl) ?_
      refine lv_iload_n hx hb dX10_brings_17 rfl (lv_at hl 1 rfl) ?_
      refine lv_iload_n hx hb dX10_brings_18 rfl (lv_at hl 2 rfl) ?_
      obtain ⟨r10, σ9, hC11, hF⟩ := zbd_inv hF
      refine z_calli (va_runV (As := [.int p1, .int p2]) (rest := []) ⟨hx, hb, hml, hown, hts⟩ (CX10_bringsOf l D cI cS cP ad A n σ5 σ9 r10 p1 p2 hC11) (cwV 2 hts gX10_brings_X10_bringsOf rfl rfl rfl (by decide +kernel) ⟨Nat.le_of_ble_eq_true rfl, Nat.le_of_ble_eq_true rfl⟩) (z_preV hN hK hP hD (by decide) zm_0 rfl) rfl rfl hl.1 rfl (lv_room (Nat.le_of_ble_eq_true rfl)) dX10_brings_19 ⟨Nat.zero_le _, Nat.zero_le _⟩) hS (fun H locs hP hD hS => ?_)
      refine lv_goto (tgt := 26) hx hb dX10_brings_22 (by decide) ?_
      exact z_iret hx hb hr hlocks hN hK hP hD hS hF dX10_brings_26
theorem kX10_question_f25 : Cond.fieldLink RX10 25 "LeastAskedModel" "asked" "[I" ∈ wsX10_question := by decide +kernel
theorem kX10_question_f107 : Cond.fieldLink RX10 107 "LeastAskedModel" "questions" "I" ∈ wsX10_question := by decide +kernel
theorem kX10_question_f110 : Cond.fieldLink RX10 110 "LeastAskedModel" "allBrought" "I" ∈ wsX10_question := by decide +kernel
theorem iX10_question_X10 : ∀ w ∈ u_ws RX10 TX10 32, w ∈ wsX10_question := fun _ h => List.mem_cons_of_mem _ (List.mem_append_right _ h)
set_option maxHeartbeats 4000000 in
set_option maxRecDepth 100000 in
theorem CX10_question (l : Launch) (D : va_G) (cI cS cP : ClassId) (ad : Nat → Nat) (A : Nat → Prop) (n : Nat) (σ σ' : zMem) (r0 : Int32) (p1 : Int32) (hF : FX10_question n σ p1 = some (r0, σ')) : Met l yX10_question wsX10_question ({ frames := 2, cells := 0, slots := 0, locals := 43 } : Room) (va_Pc [.ref (ad 0), .int p1] (zB (zm cI ad) 20 ad D (zty cI cS cP) A σ)) (va_Qi (fun r u => r = r0 ∧ u = σ') (zB (zm cI ad) 20 ad D (zty cI cS cP) A) A) 0 0 A := by
  refine Met.ofW (cc := cX10_question) (maxL := 3) (ret := (some .int)) (by decide) rfl ?_
  intro p e s m args below meth c s₁ B hml hv
  obtain ⟨rfl, hP, hK, hD, hN⟩ := hv
  have hx := B.exec
  have hb := B.bytes
  have hr := B.returns
  have hts := atoms_spec (ws := wsX10_question) B.pre
  have hown : s.vm.findClass RX10 = some m.cls := findClass_of_methodNamed B.named
  have hlocks := B.notSynchronized
  have hS : va_S A s.heap s.heap [] := va_S.rf
  have hl := lv_entry ([.ref (ad 0), .int p1]) (n := 3) (Nat.le_of_ble_eq_true rfl)
  rw [lg_entry_eq]
  generalize (lg_sl ([.ref (ad 0), .int p1]) ++ List.replicate (3 - (lg_sl ([.ref (ad 0), .int p1])).length) Slot.unset).toArray = ls at hl ⊢
  have hl : lv_has ls 3 [(0, .ref (ad 0)), (1, .int p1)] := hl
  clear B
  unfold FX10_question at hF
  refine lv_aload_n hx hb dX10_question_0 rfl (lv_at hl 0 rfl) ?_
  refine lv_iload_n hx hb dX10_question_1 rfl (lv_at hl 1 rfl) ?_
  obtain ⟨r2, σ1, hC3, hF⟩ := zbd_inv hF
  refine z_calli (va_runV (As := [.int p1]) (rest := []) ⟨hx, hb, hml, hown, hts⟩ (CX10_isMatter l D cI cS cP ad A n σ σ1 r2 p1 hC3) (cwV 1 hts gX10_question_X10_isMatter rfl rfl rfl (by decide +kernel) ⟨Nat.le_of_ble_eq_true rfl, Nat.le_of_ble_eq_true rfl⟩) (z_preV hN hK hP hD (by decide) zm_0 rfl) rfl rfl hl.1 rfl (lv_room (Nat.le_of_ble_eq_true rfl)) dX10_question_2 ⟨Nat.zero_le _, Nat.zero_le _⟩) hS (fun H locs hP hD hS => ?_)
  refine lv_if_ne (tgt := 10) hx hb dX10_question_5 (by decide) (fun b4 => ?_) (fun b4 => ?_)
  · have hF := zif_f b4 hF
    refine lv_aload_n hx hb dX10_question_10 rfl (lv_at hl 0 rfl) ?_
    obtain ⟨r6, σ5, hC7, hF⟩ := zbd_inv hF
    refine z_calli (va_runV (As := []) (rest := []) ⟨hx, hb, hml, hown, hts⟩ (CX10_firstOf l D cI cS cP ad A n σ1 σ5 r6 hC7) (cwV 0 hts gX10_question_X10_firstOf rfl rfl rfl (by decide +kernel) ⟨Nat.le_of_ble_eq_true rfl, Nat.le_of_ble_eq_true rfl⟩) (z_preV hN hK hP hD (by decide) zm_0 rfl) rfl rfl hl.1 rfl (lv_room (Nat.le_of_ble_eq_true rfl)) dX10_question_11 ⟨Nat.zero_le _, Nat.zero_le _⟩) hS (fun H locs hP hD hS => ?_)
    refine lv_istore_n (lv' := [(2, .int r6), (0, .ref (ad 0)), (1, .int p1)]) hx hb dX10_question_14 rfl hl (by decide) rfl (fun ls hl => ?_)
    refine lv_aload_n hx hb dX10_question_15 rfl (lv_at hl 1 rfl) ?_
    refine z_get (ci := 9) (C := RX10) (T := TX10) (N := 32) hx hb hts iX10_question_X10 hown hK hP (by decide) zm_0 rfl 10 (by decide) kX10_question_f25 rfl (v := .ref (ad 6)) rfl dX10_question_16 ?_
    refine lv_iload_n hx hb dX10_question_19 rfl (lv_at hl 0 rfl) ?_
    refine lv_dup2_11 hx hb dX10_question_20 rfl rfl ?_
    obtain ⟨g8, hF⟩ := zgd_inv hF
    refine z_iald hx hb hK hP (by decide) (zm_a (n := 6) (by decide)) rfl g8 dX10_question_21 ?_
    refine lv_iconst (v := (1 : Int32)) hx hb dX10_question_22 (by decide) ?_
    refine lv_iadd hx hb dX10_question_23 ?_
    obtain ⟨g9, hF⟩ := zgd_inv hF
    obtain ⟨σ10, eσ10, hF⟩ := zlet_inv hF
    refine z_iast hx hb hK hP hD hS (by decide) (fun _ => (zm_a (n := 6) (by decide))) rfl g9 dX10_question_24 (fun H locs hP hD hS => ?_)
    have hP : va_P D vwCl (zW (zm cI ad) 20 ad σ10) H := by rw [eσ10]; exact hP
    have hD : va_D A (zW (zm cI ad) 20 ad σ10) := by rw [eσ10]; exact hD
    refine lv_aload_n hx hb dX10_question_25 rfl (lv_at hl 1 rfl) ?_
    refine lv_dup hx hb dX10_question_26 rfl ?_
    refine z_get (ci := 9) (C := RX10) (T := TX10) (N := 32) hx hb hts iX10_question_X10 hown hK hP (by decide) zm_0 rfl 6 (by decide) kX10_question_f107 rfl (v := .int (σ10 0 6)) rfl dX10_question_27 ?_
    refine lv_iconst (v := (1 : Int32)) hx hb dX10_question_30 (by decide) ?_
    refine lv_iadd hx hb dX10_question_31 ?_
    obtain ⟨σ11, eσ11, hF⟩ := zlet_inv hF
    refine z_put (ci := 9) (C := RX10) (T := TX10) (N := 32) hx hb hts iX10_question_X10 tyX10 tyX10_ok nmX10 hown hK hP hD hS (by decide) zm_0 rfl 6 (by decide) kX10_question_f107 rfl rfl rfl rfl (Nat.le_of_ble_eq_true rfl) zm_0 dX10_question_32 (fun H locs hP hD hS => ?_)
    have hP : va_P D vwCl (zW (zm cI ad) 20 ad σ11) H := by rw [eσ11]; exact hP
    have hD : va_D A (zW (zm cI ad) 20 ad σ11) := by rw [eσ11]; exact hD
    refine lv_aload_n hx hb dX10_question_35 rfl (lv_at hl 1 rfl) ?_
    refine lv_dup hx hb dX10_question_36 rfl ?_
    refine z_get (ci := 9) (C := RX10) (T := TX10) (N := 32) hx hb hts iX10_question_X10 hown hK hP (by decide) zm_0 rfl 7 (by decide) kX10_question_f110 rfl (v := .int (σ11 0 7)) rfl dX10_question_37 ?_
    refine lv_aload_n hx hb dX10_question_40 rfl (lv_at hl 1 rfl) ?_
    refine lv_iload_n hx hb dX10_question_41 rfl (lv_at hl 0 rfl) ?_
    refine lv_iload_n hx hb dX10_question_42 rfl (lv_at hl 2 rfl) ?_
    obtain ⟨r13, σ12, hC14, hF⟩ := zbd_inv hF
    refine z_calli (va_runV (As := [.int r6, .int p1]) (rest := [.int (σ11 0 7), .ref (ad 0)]) ⟨hx, hb, hml, hown, hts⟩ (CX10_bringsOf l D cI cS cP ad A n σ11 σ12 r13 r6 p1 hC14) (cwV 2 hts gX10_question_X10_bringsOf rfl rfl rfl (by decide +kernel) ⟨Nat.le_of_ble_eq_true rfl, Nat.le_of_ble_eq_true rfl⟩) (z_preV hN hK hP hD (by decide) zm_0 rfl) rfl rfl hl.1 rfl (lv_room (Nat.le_of_ble_eq_true rfl)) dX10_question_43 ⟨Nat.zero_le _, Nat.zero_le _⟩) hS (fun H locs hP hD hS => ?_)
    refine lv_iadd hx hb dX10_question_46 ?_
    obtain ⟨σ15, eσ15, hF⟩ := zlet_inv hF
    refine z_put (ci := 9) (C := RX10) (T := TX10) (N := 32) hx hb hts iX10_question_X10 tyX10 tyX10_ok nmX10 hown hK hP hD hS (by decide) zm_0 rfl 7 (by decide) kX10_question_f110 rfl rfl rfl rfl (Nat.le_of_ble_eq_true rfl) zm_0 dX10_question_47 (fun H locs hP hD hS => ?_)
    have hP : va_P D vwCl (zW (zm cI ad) 20 ad σ15) H := by rw [eσ15]; exact hP
    have hD : va_D A (zW (zm cI ad) 20 ad σ15) := by rw [eσ15]; exact hD
    refine lv_iload_n hx hb dX10_question_50 rfl (lv_at hl 0 rfl) ?_
    exact z_iret hx hb hr hlocks hN hK hP hD hS hF dX10_question_51
  · have hF := zif_t b4 hF
    refine lv_iconst (v := (-1 : Int32)) hx hb dX10_question_8 (by decide) ?_
    exact z_iret hx hb hr hlocks hN hK hP hD hS hF dX10_question_9
theorem kX10_feint_f25 : Cond.fieldLink RX10 25 "LeastAskedModel" "asked" "[I" ∈ wsX10_feint := by decide +kernel
theorem iX10_feint_X10 : ∀ w ∈ u_ws RX10 TX10 32, w ∈ wsX10_feint := fun _ h => List.mem_cons_of_mem _ (List.mem_append_right _ h)
set_option maxHeartbeats 4000000 in
set_option maxRecDepth 100000 in
theorem CX10_feint (l : Launch) (D : va_G) (cI cS cP : ClassId) (ad : Nat → Nat) (A : Nat → Prop) (n : Nat) (σ σ' : zMem) (r0 : Int32) (p1 : Int32) (hF : FX10_feint n σ p1 = some (r0, σ')) : Met l yX10_feint wsX10_feint ({ frames := 1, cells := 0, slots := 0, locals := 22 } : Room) (va_Pc [.ref (ad 0), .int p1] (zB (zm cI ad) 20 ad D (zty cI cS cP) A σ)) (va_Qi (fun r u => r = r0 ∧ u = σ') (zB (zm cI ad) 20 ad D (zty cI cS cP) A) A) 0 0 A := by
  refine Met.ofW (cc := cX10_feint) (maxL := 2) (ret := (some .int)) (by decide) rfl ?_
  intro p e s m args below meth c s₁ B hml hv
  obtain ⟨rfl, hP, hK, hD, hN⟩ := hv
  have hx := B.exec
  have hb := B.bytes
  have hr := B.returns
  have hts := atoms_spec (ws := wsX10_feint) B.pre
  have hown : s.vm.findClass RX10 = some m.cls := findClass_of_methodNamed B.named
  have hlocks := B.notSynchronized
  have hS : va_S A s.heap s.heap [] := va_S.rf
  have hl := lv_entry ([.ref (ad 0), .int p1]) (n := 2) (Nat.le_of_ble_eq_true rfl)
  rw [lg_entry_eq]
  generalize (lg_sl ([.ref (ad 0), .int p1]) ++ List.replicate (2 - (lg_sl ([.ref (ad 0), .int p1])).length) Slot.unset).toArray = ls at hl ⊢
  have hl : lv_has ls 2 [(0, .ref (ad 0)), (1, .int p1)] := hl
  clear B
  unfold FX10_feint at hF
  refine lv_aload_n hx hb dX10_feint_0 rfl (lv_at hl 0 rfl) ?_
  refine lv_iload_n hx hb dX10_feint_1 rfl (lv_at hl 1 rfl) ?_
  obtain ⟨r2, σ1, hC3, hF⟩ := zbd_inv hF
  refine z_calli (va_runV (As := [.int p1]) (rest := []) ⟨hx, hb, hml, hown, hts⟩ (CX10_isPerson l D cI cS cP ad A n σ σ1 r2 p1 hC3) (cwV 1 hts gX10_feint_X10_isPerson rfl rfl rfl (by decide +kernel) ⟨Nat.le_of_ble_eq_true rfl, Nat.le_of_ble_eq_true rfl⟩) (z_preV hN hK hP hD (by decide) zm_0 rfl) rfl rfl hl.1 rfl (lv_room (Nat.le_of_ble_eq_true rfl)) dX10_feint_2 ⟨Nat.zero_le _, Nat.zero_le _⟩) hS (fun H locs hP hD hS => ?_)
  refine lv_if_ne (tgt := 10) hx hb dX10_feint_5 (by decide) (fun b4 => ?_) (fun b4 => ?_)
  · have hF := zif_f b4 hF
    refine lv_iload_n hx hb dX10_feint_10 rfl (lv_at hl 1 rfl) ?_
    refine lv_aload_n hx hb dX10_feint_11 rfl (lv_at hl 0 rfl) ?_
    obtain ⟨r6, σ5, hC7, hF⟩ := zbd_inv hF
    refine z_calli (va_runV (As := []) (rest := [.int p1]) ⟨hx, hb, hml, hown, hts⟩ (CX10_firstOf l D cI cS cP ad A n σ1 σ5 r6 hC7) (cwV 0 hts gX10_feint_X10_firstOf rfl rfl rfl (by decide +kernel) ⟨Nat.le_of_ble_eq_true rfl, Nat.le_of_ble_eq_true rfl⟩) (z_preV hN hK hP hD (by decide) zm_0 rfl) rfl rfl hl.1 rfl (lv_room (Nat.le_of_ble_eq_true rfl)) dX10_feint_12 ⟨Nat.zero_le _, Nat.zero_le _⟩) hS (fun H locs hP hD hS => ?_)
    refine lv_icmp_eq (tgt := 21) hx hb dX10_feint_15 (by decide) (fun b8 => ?_) (fun b8 => ?_)
    · have hF := zif_t b8 hF
      refine lv_aload_n hx hb dX10_feint_21 rfl (lv_at hl 0 rfl) ?_
      refine z_get (ci := 9) (C := RX10) (T := TX10) (N := 32) hx hb hts iX10_feint_X10 hown hK hP (by decide) zm_0 rfl 10 (by decide) kX10_feint_f25 rfl (v := .ref (ad 6)) rfl dX10_feint_22 ?_
      refine lv_iload_n hx hb dX10_feint_25 rfl (lv_at hl 1 rfl) ?_
      refine lv_dup2_11 hx hb dX10_feint_26 rfl rfl ?_
      obtain ⟨g9, hF⟩ := zgd_inv hF
      refine z_iald hx hb hK hP (by decide) (zm_a (n := 6) (by decide)) rfl g9 dX10_feint_27 ?_
      refine lv_iconst (v := (1 : Int32)) hx hb dX10_feint_28 (by decide) ?_
      refine lv_iadd hx hb dX10_feint_29 ?_
      obtain ⟨g10, hF⟩ := zgd_inv hF
      obtain ⟨σ11, eσ11, hF⟩ := zlet_inv hF
      refine z_iast hx hb hK hP hD hS (by decide) (fun _ => (zm_a (n := 6) (by decide))) rfl g10 dX10_feint_30 (fun H locs hP hD hS => ?_)
      have hP : va_P D vwCl (zW (zm cI ad) 20 ad σ11) H := by rw [eσ11]; exact hP
      have hD : va_D A (zW (zm cI ad) 20 ad σ11) := by rw [eσ11]; exact hD
      refine lv_aload_n hx hb dX10_feint_31 rfl (lv_at hl 0 rfl) ?_
      refine z_get (ci := 9) (C := RX10) (T := TX10) (N := 32) hx hb hts iX10_feint_X10 hown hK hP (by decide) zm_0 rfl 10 (by decide) kX10_feint_f25 rfl (v := .ref (ad 6)) rfl dX10_feint_32 ?_
      refine lv_iload_n hx hb dX10_feint_35 rfl (lv_at hl 1 rfl) ?_
      obtain ⟨g12, hF⟩ := zgd_inv hF
      refine z_iald hx hb hK hP (by decide) (zm_a (n := 6) (by decide)) rfl g12 dX10_feint_36 ?_
      exact z_iret hx hb hr hlocks hN hK hP hD hS hF dX10_feint_37
    · have hF := zif_f b8 hF
      refine lv_bipush (v := (-3 : Int32)) hx hb dX10_feint_18 (by decide) ?_
      exact z_iret hx hb hr hlocks hN hK hP hD hS hF dX10_feint_20
  · have hF := zif_t b4 hF
    refine lv_iconst (v := (-1 : Int32)) hx hb dX10_feint_8 (by decide) ?_
    exact z_iret hx hb hr hlocks hN hK hP hD hS hF dX10_feint_9
theorem kX10_keep_f77 : Cond.fieldLink RX10 77 "LeastAskedModel" "people" "I" ∈ wsX10_keep := by decide +kernel
theorem kX10_keep_f40 : Cond.fieldLink RX10 40 "LeastAskedModel" "keptAsked" "[I" ∈ wsX10_keep := by decide +kernel
theorem kX10_keep_f25 : Cond.fieldLink RX10 25 "LeastAskedModel" "asked" "[I" ∈ wsX10_keep := by decide +kernel
theorem kX10_keep_f43 : Cond.fieldLink RX10 43 "LeastAskedModel" "keptKnows" "[I" ∈ wsX10_keep := by decide +kernel
theorem kX10_keep_f28 : Cond.fieldLink RX10 28 "LeastAskedModel" "knows" "[I" ∈ wsX10_keep := by decide +kernel
theorem iX10_keep_X10 : ∀ w ∈ u_ws RX10 TX10 32, w ∈ wsX10_keep := fun _ h => List.mem_cons_of_mem _ (List.mem_append_right _ h)
set_option maxHeartbeats 4000000 in
set_option maxRecDepth 100000 in
theorem CX10_keep (l : Launch) (D : va_G) (cI cS cP : ClassId) (ad : Nat → Nat) (A : Nat → Prop) (n : Nat) (σ σ' : zMem) (r0 : Int32) (hF : FX10_keep n σ = some (r0, σ')) : Met l yX10_keep wsX10_keep ({ frames := 0, cells := 0, slots := 0, locals := 0 } : Room) (va_Pc [.ref (ad 0)] (zB (zm cI ad) 20 ad D (zty cI cS cP) A σ)) (va_Qv (fun u => u = σ') (zB (zm cI ad) 20 ad D (zty cI cS cP) A) A) 0 0 A := by
  refine Met.ofW (cc := cX10_keep) (maxL := 2) (ret := none) (by decide) rfl ?_
  intro p e s m args below meth c s₁ B hml hv
  obtain ⟨rfl, hP, hK, hD, hN⟩ := hv
  have hx := B.exec
  have hb := B.bytes
  have hr := B.returns
  have hts := atoms_spec (ws := wsX10_keep) B.pre
  have hown : s.vm.findClass RX10 = some m.cls := findClass_of_methodNamed B.named
  have hlocks := B.notSynchronized
  have hS : va_S A s.heap s.heap [] := va_S.rf
  have hl := lv_entry ([.ref (ad 0)]) (n := 2) (Nat.le_of_ble_eq_true rfl)
  rw [lg_entry_eq]
  generalize (lg_sl ([.ref (ad 0)]) ++ List.replicate (2 - (lg_sl ([.ref (ad 0)])).length) Slot.unset).toArray = ls at hl ⊢
  have hl : lv_has ls 2 [(0, .ref (ad 0))] := hl
  clear B
  have hB2 : ∀ (f2 : Nat) (σ : zMem) (l1 : Int32), ∀ (H : Heap) (locs : List Loc) (ls : Array Slot), zlp (LX10_keep_2 n) f2 (σ, l1) = some (r0, σ') → va_P D vwCl (zW (zm cI ad) 20 ad σ) H → va_D A (zW (zm cI ad) 20 ad σ) → va_S A s.heap H locs → lv_has ls 2 [(0, .ref (ad 0)), (1, .int l1)] → W p l e (headSpec wsX10_keep ({ frames := 0, cells := 0, slots := 0, locals := 0 } : Room)).room s m ([.ref (ad 0)] : List Value).toArray below meth c H locs 0 0 (MQ below (va_Qv (fun u => u = σ') (zB (zm cI ad) 20 ad D (zty cI cS cP) A) A) ([.ref (ad 0)] : List Value).toArray s 0 0 A) (F0 m 2 ls []) := by
    intro f2
    induction f2 with
    | zero => intro σ l1 H locs ls hF hP hD hS hl; exact (zlp_0 hF).elim
    | succ f2 ih2 =>
      intro σ l1 H locs ls hF hP hD hS hl
      have hF : LBX10_keep_2 n   (zlp (LX10_keep_2 n) f2) σ l1 = some (r0, σ') := hF
      unfold LBX10_keep_2 at hF
      refine lv_iload_n hx hb dX10_keep_2 rfl (lv_at hl 1 rfl) ?_
      refine lv_aload_n hx hb dX10_keep_3 rfl (lv_at hl 0 rfl) ?_
      refine z_get (ci := 9) (C := RX10) (T := TX10) (N := 32) hx hb hts iX10_keep_X10 hown hK hP (by decide) zm_0 rfl 5 (by decide) kX10_keep_f77 rfl (v := .int (σ 0 5)) rfl dX10_keep_4 ?_
      refine lv_icmp_ge (tgt := 40) hx hb dX10_keep_7 (by decide) (fun b1 => ?_) (fun b1 => ?_)
      · have hF := zif_t b1 hF
        exact z_vret hx hb hr hlocks hN hK hP hD hS hF dX10_keep_40
      · have hF := zif_f b1 hF
        refine lv_aload_n hx hb dX10_keep_10 rfl (lv_at hl 0 rfl) ?_
        refine z_get (ci := 9) (C := RX10) (T := TX10) (N := 32) hx hb hts iX10_keep_X10 hown hK hP (by decide) zm_0 rfl 17 (by decide) kX10_keep_f40 rfl (v := .ref (ad 11)) rfl dX10_keep_11 ?_
        refine lv_iload_n hx hb dX10_keep_14 rfl (lv_at hl 1 rfl) ?_
        refine lv_aload_n hx hb dX10_keep_15 rfl (lv_at hl 0 rfl) ?_
        refine z_get (ci := 9) (C := RX10) (T := TX10) (N := 32) hx hb hts iX10_keep_X10 hown hK hP (by decide) zm_0 rfl 10 (by decide) kX10_keep_f25 rfl (v := .ref (ad 6)) rfl dX10_keep_16 ?_
        refine lv_iload_n hx hb dX10_keep_19 rfl (lv_at hl 1 rfl) ?_
        obtain ⟨g2, hF⟩ := zgd_inv hF
        refine z_iald hx hb hK hP (by decide) (zm_a (n := 6) (by decide)) rfl g2 dX10_keep_20 ?_
        obtain ⟨g3, hF⟩ := zgd_inv hF
        obtain ⟨σ4, eσ4, hF⟩ := zlet_inv hF
        refine z_iast hx hb hK hP hD hS (by decide) (fun _ => (zm_a (n := 6) (by decide))) rfl g3 dX10_keep_21 (fun H locs hP hD hS => ?_)
        have hP : va_P D vwCl (zW (zm cI ad) 20 ad σ4) H := by rw [eσ4]; exact hP
        have hD : va_D A (zW (zm cI ad) 20 ad σ4) := by rw [eσ4]; exact hD
        refine lv_aload_n hx hb dX10_keep_22 rfl (lv_at hl 0 rfl) ?_
        refine z_get (ci := 9) (C := RX10) (T := TX10) (N := 32) hx hb hts iX10_keep_X10 hown hK hP (by decide) zm_0 rfl 18 (by decide) kX10_keep_f43 rfl (v := .ref (ad 12)) rfl dX10_keep_23 ?_
        refine lv_iload_n hx hb dX10_keep_26 rfl (lv_at hl 1 rfl) ?_
        refine lv_aload_n hx hb dX10_keep_27 rfl (lv_at hl 0 rfl) ?_
        refine z_get (ci := 9) (C := RX10) (T := TX10) (N := 32) hx hb hts iX10_keep_X10 hown hK hP (by decide) zm_0 rfl 11 (by decide) kX10_keep_f28 rfl (v := .ref (ad 7)) rfl dX10_keep_28 ?_
        refine lv_iload_n hx hb dX10_keep_31 rfl (lv_at hl 1 rfl) ?_
        obtain ⟨g5, hF⟩ := zgd_inv hF
        refine z_iald hx hb hK hP (by decide) (zm_a (n := 6) (by decide)) rfl g5 dX10_keep_32 ?_
        obtain ⟨g6, hF⟩ := zgd_inv hF
        obtain ⟨σ7, eσ7, hF⟩ := zlet_inv hF
        refine z_iast hx hb hK hP hD hS (by decide) (fun _ => (zm_a (n := 6) (by decide))) rfl g6 dX10_keep_33 (fun H locs hP hD hS => ?_)
        have hP : va_P D vwCl (zW (zm cI ad) 20 ad σ7) H := by rw [eσ7]; exact hP
        have hD : va_D A (zW (zm cI ad) 20 ad σ7) := by rw [eσ7]; exact hD
        refine lv_iinc (v := (l1 + (1 : Int32))) (lv' := [(1, .int (l1 + (1 : Int32))), (0, .ref (ad 0))]) hx hb dX10_keep_34 hl (k := 1) rfl rfl (by decide) rfl (fun ls hl => ?_)
        refine lv_goto (tgt := 2) hx hb dX10_keep_37 (by decide) ?_
        exact ih2 σ7 (l1 + (1 : Int32)) _ _ _ hF hP hD hS (lv_sub hl [1, 0] rfl)
  unfold FX10_keep at hF
  refine lv_iconst (v := (0 : Int32)) hx hb dX10_keep_0 (by decide) ?_
  refine lv_istore_n (lv' := [(1, .int (0 : Int32)), (0, .ref (ad 0))]) hx hb dX10_keep_1 rfl hl (by decide) rfl (fun ls hl => ?_)
  exact hB2 n σ (0 : Int32) _ _ _ hF hP hD hS (lv_sub hl [1, 0] rfl)
theorem kX10_putBack_f77 : Cond.fieldLink RX10 77 "LeastAskedModel" "people" "I" ∈ wsX10_putBack := by decide +kernel
theorem kX10_putBack_f25 : Cond.fieldLink RX10 25 "LeastAskedModel" "asked" "[I" ∈ wsX10_putBack := by decide +kernel
theorem kX10_putBack_f40 : Cond.fieldLink RX10 40 "LeastAskedModel" "keptAsked" "[I" ∈ wsX10_putBack := by decide +kernel
theorem kX10_putBack_f28 : Cond.fieldLink RX10 28 "LeastAskedModel" "knows" "[I" ∈ wsX10_putBack := by decide +kernel
theorem kX10_putBack_f43 : Cond.fieldLink RX10 43 "LeastAskedModel" "keptKnows" "[I" ∈ wsX10_putBack := by decide +kernel
theorem iX10_putBack_X10 : ∀ w ∈ u_ws RX10 TX10 32, w ∈ wsX10_putBack := fun _ h => List.mem_cons_of_mem _ (List.mem_append_right _ h)
set_option maxHeartbeats 4000000 in
set_option maxRecDepth 100000 in
theorem CX10_putBack (l : Launch) (D : va_G) (cI cS cP : ClassId) (ad : Nat → Nat) (A : Nat → Prop) (n : Nat) (σ σ' : zMem) (r0 : Int32) (hF : FX10_putBack n σ = some (r0, σ')) : Met l yX10_putBack wsX10_putBack ({ frames := 0, cells := 0, slots := 0, locals := 0 } : Room) (va_Pc [.ref (ad 0)] (zB (zm cI ad) 20 ad D (zty cI cS cP) A σ)) (va_Qv (fun u => u = σ') (zB (zm cI ad) 20 ad D (zty cI cS cP) A) A) 0 0 A := by
  refine Met.ofW (cc := cX10_putBack) (maxL := 2) (ret := none) (by decide) rfl ?_
  intro p e s m args below meth c s₁ B hml hv
  obtain ⟨rfl, hP, hK, hD, hN⟩ := hv
  have hx := B.exec
  have hb := B.bytes
  have hr := B.returns
  have hts := atoms_spec (ws := wsX10_putBack) B.pre
  have hown : s.vm.findClass RX10 = some m.cls := findClass_of_methodNamed B.named
  have hlocks := B.notSynchronized
  have hS : va_S A s.heap s.heap [] := va_S.rf
  have hl := lv_entry ([.ref (ad 0)]) (n := 2) (Nat.le_of_ble_eq_true rfl)
  rw [lg_entry_eq]
  generalize (lg_sl ([.ref (ad 0)]) ++ List.replicate (2 - (lg_sl ([.ref (ad 0)])).length) Slot.unset).toArray = ls at hl ⊢
  have hl : lv_has ls 2 [(0, .ref (ad 0))] := hl
  clear B
  have hB2 : ∀ (f2 : Nat) (σ : zMem) (l1 : Int32), ∀ (H : Heap) (locs : List Loc) (ls : Array Slot), zlp (LX10_putBack_2 n) f2 (σ, l1) = some (r0, σ') → va_P D vwCl (zW (zm cI ad) 20 ad σ) H → va_D A (zW (zm cI ad) 20 ad σ) → va_S A s.heap H locs → lv_has ls 2 [(0, .ref (ad 0)), (1, .int l1)] → W p l e (headSpec wsX10_putBack ({ frames := 0, cells := 0, slots := 0, locals := 0 } : Room)).room s m ([.ref (ad 0)] : List Value).toArray below meth c H locs 0 0 (MQ below (va_Qv (fun u => u = σ') (zB (zm cI ad) 20 ad D (zty cI cS cP) A) A) ([.ref (ad 0)] : List Value).toArray s 0 0 A) (F0 m 2 ls []) := by
    intro f2
    induction f2 with
    | zero => intro σ l1 H locs ls hF hP hD hS hl; exact (zlp_0 hF).elim
    | succ f2 ih2 =>
      intro σ l1 H locs ls hF hP hD hS hl
      have hF : LBX10_putBack_2 n   (zlp (LX10_putBack_2 n) f2) σ l1 = some (r0, σ') := hF
      unfold LBX10_putBack_2 at hF
      refine lv_iload_n hx hb dX10_putBack_2 rfl (lv_at hl 1 rfl) ?_
      refine lv_aload_n hx hb dX10_putBack_3 rfl (lv_at hl 0 rfl) ?_
      refine z_get (ci := 9) (C := RX10) (T := TX10) (N := 32) hx hb hts iX10_putBack_X10 hown hK hP (by decide) zm_0 rfl 5 (by decide) kX10_putBack_f77 rfl (v := .int (σ 0 5)) rfl dX10_putBack_4 ?_
      refine lv_icmp_ge (tgt := 40) hx hb dX10_putBack_7 (by decide) (fun b1 => ?_) (fun b1 => ?_)
      · have hF := zif_t b1 hF
        exact z_vret hx hb hr hlocks hN hK hP hD hS hF dX10_putBack_40
      · have hF := zif_f b1 hF
        refine lv_aload_n hx hb dX10_putBack_10 rfl (lv_at hl 0 rfl) ?_
        refine z_get (ci := 9) (C := RX10) (T := TX10) (N := 32) hx hb hts iX10_putBack_X10 hown hK hP (by decide) zm_0 rfl 10 (by decide) kX10_putBack_f25 rfl (v := .ref (ad 6)) rfl dX10_putBack_11 ?_
        refine lv_iload_n hx hb dX10_putBack_14 rfl (lv_at hl 1 rfl) ?_
        refine lv_aload_n hx hb dX10_putBack_15 rfl (lv_at hl 0 rfl) ?_
        refine z_get (ci := 9) (C := RX10) (T := TX10) (N := 32) hx hb hts iX10_putBack_X10 hown hK hP (by decide) zm_0 rfl 17 (by decide) kX10_putBack_f40 rfl (v := .ref (ad 11)) rfl dX10_putBack_16 ?_
        refine lv_iload_n hx hb dX10_putBack_19 rfl (lv_at hl 1 rfl) ?_
        obtain ⟨g2, hF⟩ := zgd_inv hF
        refine z_iald hx hb hK hP (by decide) (zm_a (n := 6) (by decide)) rfl g2 dX10_putBack_20 ?_
        obtain ⟨g3, hF⟩ := zgd_inv hF
        obtain ⟨σ4, eσ4, hF⟩ := zlet_inv hF
        refine z_iast hx hb hK hP hD hS (by decide) (fun _ => (zm_a (n := 6) (by decide))) rfl g3 dX10_putBack_21 (fun H locs hP hD hS => ?_)
        have hP : va_P D vwCl (zW (zm cI ad) 20 ad σ4) H := by rw [eσ4]; exact hP
        have hD : va_D A (zW (zm cI ad) 20 ad σ4) := by rw [eσ4]; exact hD
        refine lv_aload_n hx hb dX10_putBack_22 rfl (lv_at hl 0 rfl) ?_
        refine z_get (ci := 9) (C := RX10) (T := TX10) (N := 32) hx hb hts iX10_putBack_X10 hown hK hP (by decide) zm_0 rfl 11 (by decide) kX10_putBack_f28 rfl (v := .ref (ad 7)) rfl dX10_putBack_23 ?_
        refine lv_iload_n hx hb dX10_putBack_26 rfl (lv_at hl 1 rfl) ?_
        refine lv_aload_n hx hb dX10_putBack_27 rfl (lv_at hl 0 rfl) ?_
        refine z_get (ci := 9) (C := RX10) (T := TX10) (N := 32) hx hb hts iX10_putBack_X10 hown hK hP (by decide) zm_0 rfl 18 (by decide) kX10_putBack_f43 rfl (v := .ref (ad 12)) rfl dX10_putBack_28 ?_
        refine lv_iload_n hx hb dX10_putBack_31 rfl (lv_at hl 1 rfl) ?_
        obtain ⟨g5, hF⟩ := zgd_inv hF
        refine z_iald hx hb hK hP (by decide) (zm_a (n := 6) (by decide)) rfl g5 dX10_putBack_32 ?_
        obtain ⟨g6, hF⟩ := zgd_inv hF
        obtain ⟨σ7, eσ7, hF⟩ := zlet_inv hF
        refine z_iast hx hb hK hP hD hS (by decide) (fun _ => (zm_a (n := 6) (by decide))) rfl g6 dX10_putBack_33 (fun H locs hP hD hS => ?_)
        have hP : va_P D vwCl (zW (zm cI ad) 20 ad σ7) H := by rw [eσ7]; exact hP
        have hD : va_D A (zW (zm cI ad) 20 ad σ7) := by rw [eσ7]; exact hD
        refine lv_iinc (v := (l1 + (1 : Int32))) (lv' := [(1, .int (l1 + (1 : Int32))), (0, .ref (ad 0))]) hx hb dX10_putBack_34 hl (k := 1) rfl rfl (by decide) rfl (fun ls hl => ?_)
        refine lv_goto (tgt := 2) hx hb dX10_putBack_37 (by decide) ?_
        exact ih2 σ7 (l1 + (1 : Int32)) _ _ _ hF hP hD hS (lv_sub hl [1, 0] rfl)
  unfold FX10_putBack at hF
  refine lv_iconst (v := (0 : Int32)) hx hb dX10_putBack_0 (by decide) ?_
  refine lv_istore_n (lv' := [(1, .int (0 : Int32)), (0, .ref (ad 0))]) hx hb dX10_putBack_1 rfl hl (by decide) rfl (fun ls hl => ?_)
  exact hB2 n σ (0 : Int32) _ _ _ hF hP hD hS (lv_sub hl [1, 0] rfl)
