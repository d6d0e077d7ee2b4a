/-! ===== contracts: X10_sheet, X10_lose, X10_put, X10_cell, X10_copy, X10_begins, X10_tell, X10_greet, X10_as, X10_trace ===== -/
theorem kX10_sheet_f16 : Cond.fieldLink RX10 16 "LeastAskedModel" "cells" "[I" ∈ wsX10_sheet := by decide +kernel
theorem kX10_sheet_f67 : Cond.fieldLink RX10 67 "LeastAskedModel" "fault" "I" ∈ wsX10_sheet := by decide +kernel
theorem kX10_sheet_f9 : Cond.fieldLink RX10 9 "LeastAskedModel" "sorts" "[I" ∈ wsX10_sheet := by decide +kernel
theorem kX10_sheet_f13 : Cond.fieldLink RX10 13 "LeastAskedModel" "sheetLong" "[I" ∈ wsX10_sheet := by decide +kernel
theorem iX10_sheet_X10 : ∀ w ∈ u_ws RX10 TX10 32, w ∈ wsX10_sheet := fun _ h => List.mem_cons_of_mem _ (List.mem_append_right _ h)
set_option maxHeartbeats 4000000 in
set_option maxRecDepth 100000 in
theorem CX10_sheet (l : Launch) (D : va_G) (cI cS cP : ClassId) (ad : Nat → Nat) (A : Nat → Prop) (n : Nat) (σ σ' : zMem) (r0 : Int32) (p1 : Int32) (p2 : Int32) (p3 : Int32) (hF : FX10_sheet n σ p1 p2 p3 = some (r0, σ')) : Met l yX10_sheet wsX10_sheet ({ frames := 2, cells := 0, slots := 0, locals := 42 } : Room) (va_Pc [.ref (ad 0), .int p1, .int p2, .int p3] (zB (zm cI ad) 20 ad D (zty cI cS cP) A σ)) (va_Qi (fun r u => r = r0 ∧ u = σ') (zB (zm cI ad) 20 ad D (zty cI cS cP) A) A) 0 0 A := by
  refine Met.ofW (cc := cX10_sheet) (maxL := 5) (ret := (some .int)) (by decide) rfl ?_
  intro p e s m args below meth c s₁ B hml hv
  obtain ⟨rfl, hP, hK, hD, hN⟩ := hv
  have hx := B.exec
  have hb := B.bytes
  have hr := B.returns
  have hts := atoms_spec (ws := wsX10_sheet) B.pre
  have hown : s.vm.findClass RX10 = some m.cls := findClass_of_methodNamed B.named
  have hlocks := B.notSynchronized
  have hS : va_S A s.heap s.heap [] := va_S.rf
  have hl := lv_entry ([.ref (ad 0), .int p1, .int p2, .int p3]) (n := 5) (Nat.le_of_ble_eq_true rfl)
  rw [lg_entry_eq]
  generalize (lg_sl ([.ref (ad 0), .int p1, .int p2, .int p3]) ++ List.replicate (5 - (lg_sl ([.ref (ad 0), .int p1, .int p2, .int p3])).length) Slot.unset).toArray = ls at hl ⊢
  have hl : lv_has ls 5 [(0, .ref (ad 0)), (1, .int p1), (2, .int p2), (3, .int p3)] := hl
  clear B
  have hB57 : ∀ (f57 : Nat) (σ : zMem) (l1 : Int32) (l2 : Int32) (l3 : Int32) (l4 : Int32), ∀ (H : Heap) (locs : List Loc) (ls : Array Slot), zlp (LX10_sheet_57 n) f57 (σ, l1, l2, l3, l4) = some (r0, σ') → va_P D vwCl (zW (zm cI ad) 20 ad σ) H → va_D A (zW (zm cI ad) 20 ad σ) → va_S A s.heap H locs → lv_has ls 5 [(0, .ref (ad 0)), (1, .int l1), (2, .int l2), (3, .int l3), (4, .int l4)] → W p l e (headSpec wsX10_sheet ({ frames := 2, cells := 0, slots := 0, locals := 42 } : Room)).room s m ([.ref (ad 0), .int p1, .int p2, .int p3] : List Value).toArray below meth c H locs 0 0 (MQ below (va_Qi (fun r u => r = r0 ∧ u = σ') (zB (zm cI ad) 20 ad D (zty cI cS cP) A) A) ([.ref (ad 0), .int p1, .int p2, .int p3] : List Value).toArray s 0 0 A) (F0 m 57 ls []) := by
    intro f57
    induction f57 with
    | zero => intro σ l1 l2 l3 l4 H locs ls hF hP hD hS hl; exact (zlp_0 hF).elim
    | succ f57 ih57 =>
      intro σ l1 l2 l3 l4 H locs ls hF hP hD hS hl
      have hF : LBX10_sheet_57 n   (zlp (LX10_sheet_57 n) f57) σ l1 l2 l3 l4 = some (r0, σ') := hF
      unfold LBX10_sheet_57 at hF
      refine lv_iload hx hb dX10_sheet_57 (lv_at hl 4 rfl) ?_
      refine lv_bipush (v := (60 : Int32)) hx hb dX10_sheet_59 (by decide) ?_
      refine lv_icmp_ge (tgt := 83) hx hb dX10_sheet_61 (by decide) (fun b1 => ?_) (fun b1 => ?_)
      · have hF := zif_t b1 hF
        refine lv_iconst (v := (1 : Int32)) hx hb dX10_sheet_83 (by decide) ?_
        exact z_iret hx hb hr hlocks hN hK hP hD hS hF dX10_sheet_84
      · have hF := zif_f b1 hF
        refine lv_aload_n hx hb dX10_sheet_64 rfl (lv_at hl 0 rfl) ?_
        refine z_get (ci := 9) (C := RX10) (T := TX10) (N := 32) hx hb hts iX10_sheet_X10 hown hK hP (by decide) zm_0 rfl 4 (by decide) kX10_sheet_f16 rfl (v := .ref (ad 3)) rfl dX10_sheet_65 ?_
        refine lv_bipush (v := (60 : Int32)) hx hb dX10_sheet_68 (by decide) ?_
        refine lv_iload_n hx hb dX10_sheet_70 rfl (lv_at hl 1 rfl) ?_
        refine lv_imul hx hb dX10_sheet_71 ?_
        refine lv_iload hx hb dX10_sheet_72 (lv_at hl 4 rfl) ?_
        refine lv_iadd hx hb dX10_sheet_74 ?_
        refine lv_iconst (v := (0 : Int32)) hx hb dX10_sheet_75 (by decide) ?_
        obtain ⟨g2, hF⟩ := zgd_inv hF
        obtain ⟨σ3, eσ3, hF⟩ := zlet_inv hF
        refine z_iast hx hb hK hP hD hS (by decide) (fun _ => (zm_a (n := 240) (by decide))) rfl g2 dX10_sheet_76 (fun H locs hP hD hS => ?_)
        have hP : va_P D vwCl (zW (zm cI ad) 20 ad σ3) H := by rw [eσ3]; exact hP
        have hD : va_D A (zW (zm cI ad) 20 ad σ3) := by rw [eσ3]; exact hD
        refine lv_iinc (v := (l4 + (1 : Int32))) (lv' := [(4, .int (l4 + (1 : Int32))), (0, .ref (ad 0)), (1, .int l1), (2, .int l2), (3, .int l3)]) hx hb dX10_sheet_77 hl (k := 4) rfl rfl (by decide) rfl (fun ls hl => ?_)
        refine lv_goto (tgt := 57) hx hb dX10_sheet_80 (by decide) ?_
        exact ih57 σ3 l1 l2 l3 (l4 + (1 : Int32)) _ _ _ hF hP hD hS (lv_sub hl [1, 2, 3, 4, 0] rfl)
  unfold FX10_sheet at hF
  refine lv_aload_n hx hb dX10_sheet_0 rfl (lv_at hl 0 rfl) ?_
  refine lv_iconst (v := (0 : Int32)) hx hb dX10_sheet_1 (by decide) ?_
  obtain ⟨σ4, eσ4, hF⟩ := zlet_inv hF
  refine z_put (ci := 9) (C := RX10) (T := TX10) (N := 32) hx hb hts iX10_sheet_X10 tyX10 tyX10_ok nmX10 hown hK hP hD hS (by decide) zm_0 rfl 0 (by decide) kX10_sheet_f67 rfl rfl rfl rfl (Nat.le_of_ble_eq_true rfl) zm_0 dX10_sheet_2 (fun H locs hP hD hS => ?_)
  have hP : va_P D vwCl (zW (zm cI ad) 20 ad σ4) H := by rw [eσ4]; exact hP
  have hD : va_D A (zW (zm cI ad) 20 ad σ4) := by rw [eσ4]; exact hD
  refine lv_iload_n hx hb dX10_sheet_5 rfl (lv_at hl 1 rfl) ?_
  obtain ⟨r6, σ5, hC7, hF⟩ := zbd_inv hF
  refine z_calli (va_runS (As := [.int p1]) (rest := []) ⟨hx, hb, hml, hown, hts⟩ (CX10_isSheet l D cI cS cP ad A n σ4 σ5 r6 p1 hC7) (va_cwS 1 hts gX10_sheet_X10_isSheet rfl rfl rfl (by decide +kernel) ⟨Nat.le_of_ble_eq_true rfl, Nat.le_of_ble_eq_true rfl⟩) (z_preS hN hK hP hD) rfl rfl hl.1 rfl (lv_room (Nat.le_of_ble_eq_true rfl)) dX10_sheet_6 ⟨Nat.zero_le _, Nat.zero_le _⟩) hS (fun H locs hP hD hS => ?_)
  refine lv_if_ne (tgt := 14) hx hb dX10_sheet_9 (by decide) (fun b8 => ?_) (fun b8 => ?_)
  · have hF := zif_f b8 hF
    refine lv_iload_n hx hb dX10_sheet_14 rfl (lv_at hl 2 rfl) ?_
    obtain ⟨r10, σ9, hC11, hF⟩ := zbd_inv hF
    refine z_calli (va_runS (As := [.int p2]) (rest := []) ⟨hx, hb, hml, hown, hts⟩ (CX10_isSort l D cI cS cP ad A n σ5 σ9 r10 p2 hC11) (va_cwS 1 hts gX10_sheet_X10_isSort rfl rfl rfl (by decide +kernel) ⟨Nat.le_of_ble_eq_true rfl, Nat.le_of_ble_eq_true rfl⟩) (z_preS hN hK hP hD) rfl rfl hl.1 rfl (lv_room (Nat.le_of_ble_eq_true rfl)) dX10_sheet_15 ⟨Nat.zero_le _, Nat.zero_le _⟩) hS (fun H locs hP hD hS => ?_)
    refine lv_if_eq (tgt := 27) hx hb dX10_sheet_18 (by decide) (fun b12 => ?_) (fun b12 => ?_)
    · have hF := zif_t b12 hF
      refine lv_bipush (v := (-2 : Int32)) hx hb dX10_sheet_27 (by decide) ?_
      exact z_iret hx hb hr hlocks hN hK hP hD hS hF dX10_sheet_29
    · have hF := zif_f b12 hF
      refine lv_iload_n hx hb dX10_sheet_21 rfl (lv_at hl 3 rfl) ?_
      refine lv_bipush (v := (60 : Int32)) hx hb dX10_sheet_22 (by decide) ?_
      refine lv_icmp_le (tgt := 30) hx hb dX10_sheet_24 (by decide) (fun b13 => ?_) (fun b13 => ?_)
      · have hF := zif_t b13 hF
        refine lv_iload_n hx hb dX10_sheet_30 rfl (lv_at hl 3 rfl) ?_
        refine lv_if_ge (tgt := 40) hx hb dX10_sheet_31 (by decide) (fun b14 => ?_) (fun b14 => ?_)
        · have hF := zif_t b14 hF
          refine lv_aload_n hx hb dX10_sheet_40 rfl (lv_at hl 0 rfl) ?_
          refine z_get (ci := 9) (C := RX10) (T := TX10) (N := 32) hx hb hts iX10_sheet_X10 hown hK hP (by decide) zm_0 rfl 2 (by decide) kX10_sheet_f9 rfl (v := .ref (ad 1)) rfl dX10_sheet_41 ?_
          refine lv_iload_n hx hb dX10_sheet_44 rfl (lv_at hl 1 rfl) ?_
          refine lv_iload_n hx hb dX10_sheet_45 rfl (lv_at hl 2 rfl) ?_
          obtain ⟨g15, hF⟩ := zgd_inv hF
          obtain ⟨σ16, eσ16, hF⟩ := zlet_inv hF
          refine z_iast hx hb hK hP hD hS (by decide) (fun _ => (zm_a (n := 4) (by decide))) rfl g15 dX10_sheet_46 (fun H locs hP hD hS => ?_)
          have hP : va_P D vwCl (zW (zm cI ad) 20 ad σ16) H := by rw [eσ16]; exact hP
          have hD : va_D A (zW (zm cI ad) 20 ad σ16) := by rw [eσ16]; exact hD
          refine lv_aload_n hx hb dX10_sheet_47 rfl (lv_at hl 0 rfl) ?_
          refine z_get (ci := 9) (C := RX10) (T := TX10) (N := 32) hx hb hts iX10_sheet_X10 hown hK hP (by decide) zm_0 rfl 3 (by decide) kX10_sheet_f13 rfl (v := .ref (ad 2)) rfl dX10_sheet_48 ?_
          refine lv_iload_n hx hb dX10_sheet_51 rfl (lv_at hl 1 rfl) ?_
          refine lv_iload_n hx hb dX10_sheet_52 rfl (lv_at hl 3 rfl) ?_
          obtain ⟨g17, hF⟩ := zgd_inv hF
          obtain ⟨σ18, eσ18, hF⟩ := zlet_inv hF
          refine z_iast hx hb hK hP hD hS (by decide) (fun _ => (zm_a (n := 4) (by decide))) rfl g17 dX10_sheet_53 (fun H locs hP hD hS => ?_)
          have hP : va_P D vwCl (zW (zm cI ad) 20 ad σ18) H := by rw [eσ18]; exact hP
          have hD : va_D A (zW (zm cI ad) 20 ad σ18) := by rw [eσ18]; exact hD
          refine lv_iconst (v := (0 : Int32)) hx hb dX10_sheet_54 (by decide) ?_
          refine lv_istore (lv' := [(4, .int (0 : Int32)), (0, .ref (ad 0)), (1, .int p1), (2, .int p2), (3, .int p3)]) hx hb dX10_sheet_55 hl (by decide) rfl (fun ls hl => ?_)
          exact hB57 n σ18 p1 p2 p3 (0 : Int32) _ _ _ hF hP hD hS (lv_sub hl [1, 2, 3, 4, 0] rfl)
        · have hF := zif_f b14 hF
          refine lv_aload_n hx hb dX10_sheet_34 rfl (lv_at hl 0 rfl) ?_
          refine lv_iconst (v := (4 : Int32)) hx hb dX10_sheet_35 (by decide) ?_
          obtain ⟨r20, σ19, hC21, hF⟩ := zbd_inv hF
          refine z_calli (va_runV (As := [.int (4 : Int32)]) (rest := []) ⟨hx, hb, hml, hown, hts⟩ (CX10_fails l D cI cS cP ad A n σ9 σ19 r20 (4 : Int32) hC21) (cwV 1 hts gX10_sheet_X10_fails rfl rfl rfl (by decide +kernel) ⟨Nat.le_of_ble_eq_true rfl, Nat.le_of_ble_eq_true rfl⟩) (z_preV hN hK hP hD (by decide) zm_0 rfl) rfl rfl hl.1 rfl (lv_room (Nat.le_of_ble_eq_true rfl)) dX10_sheet_36 ⟨Nat.zero_le _, Nat.zero_le _⟩) hS (fun H locs hP hD hS => ?_)
          exact z_iret hx hb hr hlocks hN hK hP hD hS hF dX10_sheet_39
      · have hF := zif_f b13 hF
        refine lv_bipush (v := (-2 : Int32)) hx hb dX10_sheet_27 (by decide) ?_
        exact z_iret hx hb hr hlocks hN hK hP hD hS hF dX10_sheet_29
  · have hF := zif_t b8 hF
    refine lv_iconst (v := (-1 : Int32)) hx hb dX10_sheet_12 (by decide) ?_
    exact z_iret hx hb hr hlocks hN hK hP hD hS hF dX10_sheet_13
theorem kX10_lose_f9 : Cond.fieldLink RX10 9 "LeastAskedModel" "sorts" "[I" ∈ wsX10_lose := by decide +kernel
theorem iX10_lose_X10 : ∀ w ∈ u_ws RX10 TX10 32, w ∈ wsX10_lose := fun _ h => List.mem_cons_of_mem _ (List.mem_append_right _ h)
set_option maxHeartbeats 4000000 in
set_option maxRecDepth 100000 in
theorem CX10_lose (l : Launch) (D : va_G) (cI cS cP : ClassId) (ad : Nat → Nat) (A : Nat → Prop) (n : Nat) (σ σ' : zMem) (r0 : Int32) (p1 : Int32) (hF : FX10_lose n σ p1 = some (r0, σ')) : Met l yX10_lose wsX10_lose ({ frames := 2, cells := 0, slots := 0, locals := 42 } : Room) (va_Pc [.ref (ad 0), .int p1] (zB (zm cI ad) 20 ad D (zty cI cS cP) A σ)) (va_Qi (fun r u => r = r0 ∧ u = σ') (zB (zm cI ad) 20 ad D (zty cI cS cP) A) A) 0 0 A := by
  refine Met.ofW (cc := cX10_lose) (maxL := 3) (ret := (some .int)) (by decide) rfl ?_
  intro p e s m args below meth c s₁ B hml hv
  obtain ⟨rfl, hP, hK, hD, hN⟩ := hv
  have hx := B.exec
  have hb := B.bytes
  have hr := B.returns
  have hts := atoms_spec (ws := wsX10_lose) B.pre
  have hown : s.vm.findClass RX10 = some m.cls := findClass_of_methodNamed B.named
  have hlocks := B.notSynchronized
  have hS : va_S A s.heap s.heap [] := va_S.rf
  have hl := lv_entry ([.ref (ad 0), .int p1]) (n := 3) (Nat.le_of_ble_eq_true rfl)
  rw [lg_entry_eq]
  generalize (lg_sl ([.ref (ad 0), .int p1]) ++ List.replicate (3 - (lg_sl ([.ref (ad 0), .int p1])).length) Slot.unset).toArray = ls at hl ⊢
  have hl : lv_has ls 3 [(0, .ref (ad 0)), (1, .int p1)] := hl
  clear B
  have hB25 : ∀ (σ : zMem) (l1 : Int32) (s0 : Int32), ∀ (H : Heap) (locs : List Loc) (ls : Array Slot), BX10_lose_25 n σ l1 s0 = some (r0, σ') → va_P D vwCl (zW (zm cI ad) 20 ad σ) H → va_D A (zW (zm cI ad) 20 ad σ) → va_S A s.heap H locs → lv_has ls 3 [(0, .ref (ad 0)), (1, .int l1)] → W p l e (headSpec wsX10_lose ({ frames := 2, cells := 0, slots := 0, locals := 42 } : Room)).room s m ([.ref (ad 0), .int p1] : List Value).toArray below meth c H locs 0 0 (MQ below (va_Qi (fun r u => r = r0 ∧ u = σ') (zB (zm cI ad) 20 ad D (zty cI cS cP) A) A) ([.ref (ad 0), .int p1] : List Value).toArray s 0 0 A) (F0 m 25 ls [.int s0]) := by
    intro σ l1 s0 H locs ls hF hP hD hS hl
    unfold BX10_lose_25 at hF
    refine lv_istore_n (lv' := [(2, .int s0), (0, .ref (ad 0)), (1, .int l1)]) hx hb dX10_lose_25 rfl hl (by decide) rfl (fun ls hl => ?_)
    refine lv_aload_n hx hb dX10_lose_26 rfl (lv_at hl 1 rfl) ?_
    refine z_get (ci := 9) (C := RX10) (T := TX10) (N := 32) hx hb hts iX10_lose_X10 hown hK hP (by decide) zm_0 rfl 2 (by decide) kX10_lose_f9 rfl (v := .ref (ad 1)) rfl dX10_lose_27 ?_
    refine lv_iload_n hx hb dX10_lose_30 rfl (lv_at hl 2 rfl) ?_
    refine lv_bipush (v := (-9 : Int32)) hx hb dX10_lose_31 (by decide) ?_
    obtain ⟨g1, hF⟩ := zgd_inv hF
    obtain ⟨σ2, eσ2, hF⟩ := zlet_inv hF
    refine z_iast hx hb hK hP hD hS (by decide) (fun _ => (zm_a (n := 4) (by decide))) rfl g1 dX10_lose_33 (fun H locs hP hD hS => ?_)
    have hP : va_P D vwCl (zW (zm cI ad) 20 ad σ2) H := by rw [eσ2]; exact hP
    have hD : va_D A (zW (zm cI ad) 20 ad σ2) := by rw [eσ2]; exact hD
    refine lv_iload_n hx hb dX10_lose_34 rfl (lv_at hl 0 rfl) ?_
    exact z_iret hx hb hr hlocks hN hK hP hD hS hF dX10_lose_35
  unfold FX10_lose at hF
  refine lv_iload_n hx hb dX10_lose_0 rfl (lv_at hl 1 rfl) ?_
  obtain ⟨r4, σ3, hC5, hF⟩ := zbd_inv hF
  refine z_calli (va_runS (As := [.int p1]) (rest := []) ⟨hx, hb, hml, hown, hts⟩ (CX10_isSheet l D cI cS cP ad A n σ σ3 r4 p1 hC5) (va_cwS 1 hts gX10_lose_X10_isSheet rfl rfl rfl (by decide +kernel) ⟨Nat.le_of_ble_eq_true rfl, Nat.le_of_ble_eq_true rfl⟩) (z_preS hN hK hP hD) rfl rfl hl.1 rfl (lv_room (Nat.le_of_ble_eq_true rfl)) dX10_lose_1 ⟨Nat.zero_le _, Nat.zero_le _⟩) hS (fun H locs hP hD hS => ?_)
  refine lv_if_ne (tgt := 9) hx hb dX10_lose_4 (by decide) (fun b6 => ?_) (fun b6 => ?_)
  · have hF := zif_f b6 hF
    refine lv_aload_n hx hb dX10_lose_9 rfl (lv_at hl 0 rfl) ?_
    refine z_get (ci := 9) (C := RX10) (T := TX10) (N := 32) hx hb hts iX10_lose_X10 hown hK hP (by decide) zm_0 rfl 2 (by decide) kX10_lose_f9 rfl (v := .ref (ad 1)) rfl dX10_lose_10 ?_
    refine lv_iload_n hx hb dX10_lose_13 rfl (lv_at hl 1 rfl) ?_
    obtain ⟨g7, hF⟩ := zgd_inv hF
    refine z_iald hx hb hK hP (by decide) (zm_a (n := 4) (by decide)) rfl g7 dX10_lose_14 ?_
    refine lv_bipush (v := (-9 : Int32)) hx hb dX10_lose_15 (by decide) ?_
    refine lv_icmp_ne (tgt := 24) hx hb dX10_lose_17 (by decide) (fun b8 => ?_) (fun b8 => ?_)
    · have hF := zif_f b8 hF
      refine lv_iconst (v := (1 : Int32)) hx hb dX10_lose_24 (by decide) ?_
      exact hB25 σ3 p1 (1 : Int32) _ _ _ hF hP hD hS (lv_sub hl [0, 1] rfl)
    · have hF := zif_t b8 hF
      refine lv_iconst (v := (0 : Int32)) hx hb dX10_lose_20 (by decide) ?_
      refine lv_goto (tgt := 25) hx hb dX10_lose_21 (by decide) ?_
      exact hB25 σ3 p1 (0 : Int32) _ _ _ hF hP hD hS (lv_sub hl [0, 1] rfl)
  · have hF := zif_t b6 hF
    refine lv_iconst (v := (-1 : Int32)) hx hb dX10_lose_7 (by decide) ?_
    exact z_iret hx hb hr hlocks hN hK hP hD hS hF dX10_lose_8
theorem kX10_put_f67 : Cond.fieldLink RX10 67 "LeastAskedModel" "fault" "I" ∈ wsX10_put := by decide +kernel
theorem kX10_put_f9 : Cond.fieldLink RX10 9 "LeastAskedModel" "sorts" "[I" ∈ wsX10_put := by decide +kernel
theorem kX10_put_f13 : Cond.fieldLink RX10 13 "LeastAskedModel" "sheetLong" "[I" ∈ wsX10_put := by decide +kernel
theorem kX10_put_f16 : Cond.fieldLink RX10 16 "LeastAskedModel" "cells" "[I" ∈ wsX10_put := by decide +kernel
theorem iX10_put_X10 : ∀ w ∈ u_ws RX10 TX10 32, w ∈ wsX10_put := fun _ h => List.mem_cons_of_mem _ (List.mem_append_right _ h)
set_option maxHeartbeats 4000000 in
set_option maxRecDepth 100000 in
theorem CX10_put (l : Launch) (D : va_G) (cI cS cP : ClassId) (ad : Nat → Nat) (A : Nat → Prop) (n : Nat) (σ σ' : zMem) (r0 : Int32) (p1 : Int32) (p2 : Int32) (p3 : Int32) (hF : FX10_put n σ p1 p2 p3 = some (r0, σ')) : Met l yX10_put wsX10_put ({ frames := 2, cells := 0, slots := 0, locals := 42 } : Room) (va_Pc [.ref (ad 0), .int p1, .int p2, .int p3] (zB (zm cI ad) 20 ad D (zty cI cS cP) A σ)) (va_Qi (fun r u => r = r0 ∧ u = σ') (zB (zm cI ad) 20 ad D (zty cI cS cP) A) A) 0 0 A := by
  refine Met.ofW (cc := cX10_put) (maxL := 4) (ret := (some .int)) (by decide) rfl ?_
  intro p e s m args below meth c s₁ B hml hv
  obtain ⟨rfl, hP, hK, hD, hN⟩ := hv
  have hx := B.exec
  have hb := B.bytes
  have hr := B.returns
  have hts := atoms_spec (ws := wsX10_put) B.pre
  have hown : s.vm.findClass RX10 = some m.cls := findClass_of_methodNamed B.named
  have hlocks := B.notSynchronized
  have hS : va_S A s.heap s.heap [] := va_S.rf
  have hl := lv_entry ([.ref (ad 0), .int p1, .int p2, .int p3]) (n := 4) (Nat.le_of_ble_eq_true rfl)
  rw [lg_entry_eq]
  generalize (lg_sl ([.ref (ad 0), .int p1, .int p2, .int p3]) ++ List.replicate (4 - (lg_sl ([.ref (ad 0), .int p1, .int p2, .int p3])).length) Slot.unset).toArray = ls at hl ⊢
  have hl : lv_has ls 4 [(0, .ref (ad 0)), (1, .int p1), (2, .int p2), (3, .int p3)] := hl
  clear B
  unfold FX10_put at hF
  refine lv_aload_n hx hb dX10_put_0 rfl (lv_at hl 0 rfl) ?_
  refine lv_iconst (v := (0 : Int32)) hx hb dX10_put_1 (by decide) ?_
  obtain ⟨σ1, eσ1, hF⟩ := zlet_inv hF
  refine z_put (ci := 9) (C := RX10) (T := TX10) (N := 32) hx hb hts iX10_put_X10 tyX10 tyX10_ok nmX10 hown hK hP hD hS (by decide) zm_0 rfl 0 (by decide) kX10_put_f67 rfl rfl rfl rfl (Nat.le_of_ble_eq_true rfl) zm_0 dX10_put_2 (fun H locs hP hD hS => ?_)
  have hP : va_P D vwCl (zW (zm cI ad) 20 ad σ1) H := by rw [eσ1]; exact hP
  have hD : va_D A (zW (zm cI ad) 20 ad σ1) := by rw [eσ1]; exact hD
  refine lv_iload_n hx hb dX10_put_5 rfl (lv_at hl 1 rfl) ?_
  obtain ⟨r3, σ2, hC4, hF⟩ := zbd_inv hF
  refine z_calli (va_runS (As := [.int p1]) (rest := []) ⟨hx, hb, hml, hown, hts⟩ (CX10_isSheet l D cI cS cP ad A n σ1 σ2 r3 p1 hC4) (va_cwS 1 hts gX10_put_X10_isSheet rfl rfl rfl (by decide +kernel) ⟨Nat.le_of_ble_eq_true rfl, Nat.le_of_ble_eq_true rfl⟩) (z_preS hN hK hP hD) rfl rfl hl.1 rfl (lv_room (Nat.le_of_ble_eq_true rfl)) dX10_put_6 ⟨Nat.zero_le _, Nat.zero_le _⟩) hS (fun H locs hP hD hS => ?_)
  refine lv_if_ne (tgt := 14) hx hb dX10_put_9 (by decide) (fun b5 => ?_) (fun b5 => ?_)
  · have hF := zif_f b5 hF
    refine lv_aload_n hx hb dX10_put_14 rfl (lv_at hl 0 rfl) ?_
    refine z_get (ci := 9) (C := RX10) (T := TX10) (N := 32) hx hb hts iX10_put_X10 hown hK hP (by decide) zm_0 rfl 2 (by decide) kX10_put_f9 rfl (v := .ref (ad 1)) rfl dX10_put_15 ?_
    refine lv_iload_n hx hb dX10_put_18 rfl (lv_at hl 1 rfl) ?_
    obtain ⟨g6, hF⟩ := zgd_inv hF
    refine z_iald hx hb hK hP (by decide) (zm_a (n := 4) (by decide)) rfl g6 dX10_put_19 ?_
    refine lv_bipush (v := (-9 : Int32)) hx hb dX10_put_20 (by decide) ?_
    refine lv_icmp_ne (tgt := 31) hx hb dX10_put_22 (by decide) (fun b7 => ?_) (fun b7 => ?_)
    · have hF := zif_f b7 hF
      refine lv_iload_n hx hb dX10_put_31 rfl (lv_at hl 2 rfl) ?_
      refine lv_iconst (v := (0 : Int32)) hx hb dX10_put_32 (by decide) ?_
      refine lv_aload_n hx hb dX10_put_33 rfl (lv_at hl 0 rfl) ?_
      refine z_get (ci := 9) (C := RX10) (T := TX10) (N := 32) hx hb hts iX10_put_X10 hown hK hP (by decide) zm_0 rfl 3 (by decide) kX10_put_f13 rfl (v := .ref (ad 2)) rfl dX10_put_34 ?_
      refine lv_iload_n hx hb dX10_put_37 rfl (lv_at hl 1 rfl) ?_
      obtain ⟨g8, hF⟩ := zgd_inv hF
      refine z_iald hx hb hK hP (by decide) (zm_a (n := 4) (by decide)) rfl g8 dX10_put_38 ?_
      refine lv_iconst (v := (1 : Int32)) hx hb dX10_put_39 (by decide) ?_
      refine lv_isub hx hb dX10_put_40 ?_
      obtain ⟨r10, σ9, hC11, hF⟩ := zbd_inv hF
      refine z_calli (va_runS (As := [.int p2, .int (0 : Int32), .int ((σ2 2 (p1 : Int32).toNatClampNeg) - (1 : Int32))]) (rest := []) ⟨hx, hb, hml, hown, hts⟩ (CX10_within l D cI cS cP ad A n σ2 σ9 r10 p2 (0 : Int32) ((σ2 2 (p1 : Int32).toNatClampNeg) - (1 : Int32)) hC11) (va_cwS 3 hts gX10_put_X10_within rfl rfl rfl (by decide +kernel) ⟨Nat.le_of_ble_eq_true rfl, Nat.le_of_ble_eq_true rfl⟩) (z_preS hN hK hP hD) rfl rfl hl.1 rfl (lv_room (Nat.le_of_ble_eq_true rfl)) dX10_put_41 ⟨Nat.zero_le _, Nat.zero_le _⟩) hS (fun H locs hP hD hS => ?_)
      refine lv_if_ne (tgt := 53) hx hb dX10_put_44 (by decide) (fun b12 => ?_) (fun b12 => ?_)
      · have hF := zif_f b12 hF
        refine lv_aload_n hx hb dX10_put_53 rfl (lv_at hl 0 rfl) ?_
        refine z_get (ci := 9) (C := RX10) (T := TX10) (N := 32) hx hb hts iX10_put_X10 hown hK hP (by decide) zm_0 rfl 4 (by decide) kX10_put_f16 rfl (v := .ref (ad 3)) rfl dX10_put_54 ?_
        refine lv_bipush (v := (60 : Int32)) hx hb dX10_put_57 (by decide) ?_
        refine lv_iload_n hx hb dX10_put_59 rfl (lv_at hl 1 rfl) ?_
        refine lv_imul hx hb dX10_put_60 ?_
        refine lv_iload_n hx hb dX10_put_61 rfl (lv_at hl 2 rfl) ?_
        refine lv_iadd hx hb dX10_put_62 ?_
        refine lv_aload_n hx hb dX10_put_63 rfl (lv_at hl 0 rfl) ?_
        refine z_get (ci := 9) (C := RX10) (T := TX10) (N := 32) hx hb hts iX10_put_X10 hown hK hP (by decide) zm_0 rfl 2 (by decide) kX10_put_f9 rfl (v := .ref (ad 1)) rfl dX10_put_64 ?_
        refine lv_iload_n hx hb dX10_put_67 rfl (lv_at hl 1 rfl) ?_
        obtain ⟨g13, hF⟩ := zgd_inv hF
        refine z_iald hx hb hK hP (by decide) (zm_a (n := 4) (by decide)) rfl g13 dX10_put_68 ?_
        refine lv_if_ne (tgt := 77) hx hb dX10_put_69 (by decide) (fun b14 => ?_) (fun b14 => ?_)
        · have hF := zif_f b14 hF
          refine lv_aload_n hx hb dX10_put_77 rfl (lv_at hl 0 rfl) ?_
          refine z_get (ci := 9) (C := RX10) (T := TX10) (N := 32) hx hb hts iX10_put_X10 hown hK hP (by decide) zm_0 rfl 2 (by decide) kX10_put_f9 rfl (v := .ref (ad 1)) rfl dX10_put_78 ?_
          refine lv_iload_n hx hb dX10_put_81 rfl (lv_at hl 1 rfl) ?_
          obtain ⟨g15, hF⟩ := zgd_inv hF
          refine z_iald hx hb hK hP (by decide) (zm_a (n := 4) (by decide)) rfl g15 dX10_put_82 ?_
          refine lv_iconst (v := (1 : Int32)) hx hb dX10_put_83 (by decide) ?_
          refine lv_icmp_ne (tgt := 92) hx hb dX10_put_84 (by decide) (fun b16 => ?_) (fun b16 => ?_)
          · have hF := zif_f b16 hF
            refine lv_iload_n hx hb dX10_put_92 rfl (lv_at hl 3 rfl) ?_
            obtain ⟨g17, hF⟩ := zgd_inv hF
            obtain ⟨σ18, eσ18, hF⟩ := zlet_inv hF
            refine z_iast hx hb hK hP hD hS (by decide) (fun _ => (zm_a (n := 240) (by decide))) rfl g17 dX10_put_93 (fun H locs hP hD hS => ?_)
            have hP : va_P D vwCl (zW (zm cI ad) 20 ad σ18) H := by rw [eσ18]; exact hP
            have hD : va_D A (zW (zm cI ad) 20 ad σ18) := by rw [eσ18]; exact hD
            refine lv_iconst (v := (1 : Int32)) hx hb dX10_put_94 (by decide) ?_
            exact z_iret hx hb hr hlocks hN hK hP hD hS hF dX10_put_95
          · have hF := zif_t b16 hF
            refine lv_iload_n hx hb dX10_put_87 rfl (lv_at hl 3 rfl) ?_
            refine lv_i2s (v := (p3 : Int32).toInt16.toInt32) hx hb dX10_put_88 rfl ?_
            refine lv_goto (tgt := 93) hx hb dX10_put_89 (by decide) ?_
            obtain ⟨g19, hF⟩ := zgd_inv hF
            obtain ⟨σ20, eσ20, hF⟩ := zlet_inv hF
            refine z_iast hx hb hK hP hD hS (by decide) (fun _ => (zm_a (n := 240) (by decide))) rfl g19 dX10_put_93 (fun H locs hP hD hS => ?_)
            have hP : va_P D vwCl (zW (zm cI ad) 20 ad σ20) H := by rw [eσ20]; exact hP
            have hD : va_D A (zW (zm cI ad) 20 ad σ20) := by rw [eσ20]; exact hD
            refine lv_iconst (v := (1 : Int32)) hx hb dX10_put_94 (by decide) ?_
            exact z_iret hx hb hr hlocks hN hK hP hD hS hF dX10_put_95
        · have hF := zif_t b14 hF
          refine lv_iload_n hx hb dX10_put_72 rfl (lv_at hl 3 rfl) ?_
          refine lv_i2b (v := (p3 : Int32).toInt8.toInt32) hx hb dX10_put_73 rfl ?_
          refine lv_goto (tgt := 93) hx hb dX10_put_74 (by decide) ?_
          obtain ⟨g21, hF⟩ := zgd_inv hF
          obtain ⟨σ22, eσ22, hF⟩ := zlet_inv hF
          refine z_iast hx hb hK hP hD hS (by decide) (fun _ => (zm_a (n := 240) (by decide))) rfl g21 dX10_put_93 (fun H locs hP hD hS => ?_)
          have hP : va_P D vwCl (zW (zm cI ad) 20 ad σ22) H := by rw [eσ22]; exact hP
          have hD : va_D A (zW (zm cI ad) 20 ad σ22) := by rw [eσ22]; exact hD
          refine lv_iconst (v := (1 : Int32)) hx hb dX10_put_94 (by decide) ?_
          exact z_iret hx hb hr hlocks hN hK hP hD hS hF dX10_put_95
      · have hF := zif_t b12 hF
        refine lv_aload_n hx hb dX10_put_47 rfl (lv_at hl 0 rfl) ?_
        refine lv_iconst (v := (3 : Int32)) hx hb dX10_put_48 (by decide) ?_
        obtain ⟨r24, σ23, hC25, hF⟩ := zbd_inv hF
        refine z_calli (va_runV (As := [.int (3 : Int32)]) (rest := []) ⟨hx, hb, hml, hown, hts⟩ (CX10_fails l D cI cS cP ad A n σ9 σ23 r24 (3 : Int32) hC25) (cwV 1 hts gX10_put_X10_fails rfl rfl rfl (by decide +kernel) ⟨Nat.le_of_ble_eq_true rfl, Nat.le_of_ble_eq_true rfl⟩) (z_preV hN hK hP hD (by decide) zm_0 rfl) rfl rfl hl.1 rfl (lv_room (Nat.le_of_ble_eq_true rfl)) dX10_put_49 ⟨Nat.zero_le _, Nat.zero_le _⟩) hS (fun H locs hP hD hS => ?_)
        exact z_iret hx hb hr hlocks hN hK hP hD hS hF dX10_put_52
    · have hF := zif_t b7 hF
      refine lv_aload_n hx hb dX10_put_25 rfl (lv_at hl 0 rfl) ?_
      refine lv_iconst (v := (1 : Int32)) hx hb dX10_put_26 (by decide) ?_
      obtain ⟨r27, σ26, hC28, hF⟩ := zbd_inv hF
      refine z_calli (va_runV (As := [.int (1 : Int32)]) (rest := []) ⟨hx, hb, hml, hown, hts⟩ (CX10_fails l D cI cS cP ad A n σ2 σ26 r27 (1 : Int32) hC28) (cwV 1 hts gX10_put_X10_fails rfl rfl rfl (by decide +kernel) ⟨Nat.le_of_ble_eq_true rfl, Nat.le_of_ble_eq_true rfl⟩) (z_preV hN hK hP hD (by decide) zm_0 rfl) rfl rfl hl.1 rfl (lv_room (Nat.le_of_ble_eq_true rfl)) dX10_put_27 ⟨Nat.zero_le _, Nat.zero_le _⟩) hS (fun H locs hP hD hS => ?_)
      exact z_iret hx hb hr hlocks hN hK hP hD hS hF dX10_put_30
  · have hF := zif_t b5 hF
    refine lv_iconst (v := (-1 : Int32)) hx hb dX10_put_12 (by decide) ?_
    exact z_iret hx hb hr hlocks hN hK hP hD hS hF dX10_put_13
theorem kX10_cell_f9 : Cond.fieldLink RX10 9 "LeastAskedModel" "sorts" "[I" ∈ wsX10_cell := by decide +kernel
theorem kX10_cell_f13 : Cond.fieldLink RX10 13 "LeastAskedModel" "sheetLong" "[I" ∈ wsX10_cell := by decide +kernel
theorem kX10_cell_f16 : Cond.fieldLink RX10 16 "LeastAskedModel" "cells" "[I" ∈ wsX10_cell := by decide +kernel
theorem kX10_cell_f67 : Cond.fieldLink RX10 67 "LeastAskedModel" "fault" "I" ∈ wsX10_cell := by decide +kernel
theorem kX10_cell_L71 : Cond.constantLong RX10 71 (-9223372036854775808) ∈ wsX10_cell := by decide +kernel
theorem iX10_cell_X10 : ∀ w ∈ u_ws RX10 TX10 32, w ∈ wsX10_cell := fun _ h => List.mem_cons_of_mem _ (List.mem_append_right _ h)
set_option maxHeartbeats 4000000 in
set_option maxRecDepth 100000 in
theorem CX10_cell (l : Launch) (D : va_G) (cI cS cP : ClassId) (ad : Nat → Nat) (A : Nat → Prop) (n : Nat) (σ σ' : zMem) (r0 : Int64) (p1 : Int32) (p2 : Int32) (p3 : Int32) (hF : FX10_cell n σ p1 p2 p3 = some (r0, σ')) : Met l yX10_cell wsX10_cell ({ frames := 2, cells := 0, slots := 0, locals := 42 } : Room) (va_Pc [.ref (ad 0), .int p1, .int p2, .int p3] (zB (zm cI ad) 20 ad D (zty cI cS cP) A σ)) (va_Ql (fun r u => r = r0 ∧ u = σ') (zB (zm cI ad) 20 ad D (zty cI cS cP) A) A) 0 0 A := by
  refine Met.ofW (cc := cX10_cell) (maxL := 4) (ret := (some .long)) (by decide) rfl ?_
  intro p e s m args below meth c s₁ B hml hv
  obtain ⟨rfl, hP, hK, hD, hN⟩ := hv
  have hx := B.exec
  have hb := B.bytes
  have hr := B.returns
  have hts := atoms_spec (ws := wsX10_cell) B.pre
  have hown : s.vm.findClass RX10 = some m.cls := findClass_of_methodNamed B.named
  have hlocks := B.notSynchronized
  have hS : va_S A s.heap s.heap [] := va_S.rf
  have hl := lv_entry ([.ref (ad 0), .int p1, .int p2, .int p3]) (n := 4) (Nat.le_of_ble_eq_true rfl)
  rw [lg_entry_eq]
  generalize (lg_sl ([.ref (ad 0), .int p1, .int p2, .int p3]) ++ List.replicate (4 - (lg_sl ([.ref (ad 0), .int p1, .int p2, .int p3])).length) Slot.unset).toArray = ls at hl ⊢
  have hl : lv_has ls 4 [(0, .ref (ad 0)), (1, .int p1), (2, .int p2), (3, .int p3)] := hl
  clear B
  have hB50 : ∀ (σ : zMem) (l1 : Int32) (l2 : Int32) (l3 : Int32), ∀ (H : Heap) (locs : List Loc) (ls : Array Slot), BX10_cell_50 n σ l1 l2 l3 = some (r0, σ') → va_P D vwCl (zW (zm cI ad) 20 ad σ) H → va_D A (zW (zm cI ad) 20 ad σ) → va_S A s.heap H locs → lv_has ls 4 [(0, .ref (ad 0)), (1, .int l1), (2, .int l2), (3, .int l3)] → W p l e (headSpec wsX10_cell ({ frames := 2, cells := 0, slots := 0, locals := 42 } : Room)).room s m ([.ref (ad 0), .int p1, .int p2, .int p3] : List Value).toArray below meth c H locs 0 0 (MQ below (va_Ql (fun r u => r = r0 ∧ u = σ') (zB (zm cI ad) 20 ad D (zty cI cS cP) A) A) ([.ref (ad 0), .int p1, .int p2, .int p3] : List Value).toArray s 0 0 A) (F0 m 50 ls []) := by
    intro σ l1 l2 l3 H locs ls hF hP hD hS hl
    unfold BX10_cell_50 at hF
    refine lv_aload_n hx hb dX10_cell_50 rfl (lv_at hl 0 rfl) ?_
    refine z_get (ci := 9) (C := RX10) (T := TX10) (N := 32) hx hb hts iX10_cell_X10 hown hK hP (by decide) zm_0 rfl 2 (by decide) kX10_cell_f9 rfl (v := .ref (ad 1)) rfl dX10_cell_51 ?_
    refine lv_iload_n hx hb dX10_cell_54 rfl (lv_at hl 1 rfl) ?_
    obtain ⟨g1, hF⟩ := zgd_inv hF
    refine z_iald hx hb hK hP (by decide) (zm_a (n := 4) (by decide)) rfl g1 dX10_cell_55 ?_
    refine lv_bipush (v := (-9 : Int32)) hx hb dX10_cell_56 (by decide) ?_
    refine lv_icmp_ne (tgt := 67) hx hb dX10_cell_58 (by decide) (fun b2 => ?_) (fun b2 => ?_)
    · have hF := zif_f b2 hF
      refine lv_iload_n hx hb dX10_cell_67 rfl (lv_at hl 2 rfl) ?_
      refine lv_iconst (v := (0 : Int32)) hx hb dX10_cell_68 (by decide) ?_
      refine lv_aload_n hx hb dX10_cell_69 rfl (lv_at hl 0 rfl) ?_
      refine z_get (ci := 9) (C := RX10) (T := TX10) (N := 32) hx hb hts iX10_cell_X10 hown hK hP (by decide) zm_0 rfl 3 (by decide) kX10_cell_f13 rfl (v := .ref (ad 2)) rfl dX10_cell_70 ?_
      refine lv_iload_n hx hb dX10_cell_73 rfl (lv_at hl 1 rfl) ?_
      obtain ⟨g3, hF⟩ := zgd_inv hF
      refine z_iald hx hb hK hP (by decide) (zm_a (n := 4) (by decide)) rfl g3 dX10_cell_74 ?_
      refine lv_iconst (v := (1 : Int32)) hx hb dX10_cell_75 (by decide) ?_
      refine lv_isub hx hb dX10_cell_76 ?_
      obtain ⟨r5, σ4, hC6, hF⟩ := zbd_inv hF
      refine z_calli (va_runS (As := [.int l2, .int (0 : Int32), .int ((σ 2 (l1 : Int32).toNatClampNeg) - (1 : Int32))]) (rest := []) ⟨hx, hb, hml, hown, hts⟩ (CX10_within l D cI cS cP ad A n σ σ4 r5 l2 (0 : Int32) ((σ 2 (l1 : Int32).toNatClampNeg) - (1 : Int32)) hC6) (va_cwS 3 hts gX10_cell_X10_within rfl rfl rfl (by decide +kernel) ⟨Nat.le_of_ble_eq_true rfl, Nat.le_of_ble_eq_true rfl⟩) (z_preS hN hK hP hD) rfl rfl hl.1 rfl (lv_room (Nat.le_of_ble_eq_true rfl)) dX10_cell_77 ⟨Nat.zero_le _, Nat.zero_le _⟩) hS (fun H locs hP hD hS => ?_)
      refine lv_if_ne (tgt := 89) hx hb dX10_cell_80 (by decide) (fun b7 => ?_) (fun b7 => ?_)
      · have hF := zif_f b7 hF
        refine lv_aload_n hx hb dX10_cell_89 rfl (lv_at hl 0 rfl) ?_
        refine z_get (ci := 9) (C := RX10) (T := TX10) (N := 32) hx hb hts iX10_cell_X10 hown hK hP (by decide) zm_0 rfl 4 (by decide) kX10_cell_f16 rfl (v := .ref (ad 3)) rfl dX10_cell_90 ?_
        refine lv_bipush (v := (60 : Int32)) hx hb dX10_cell_93 (by decide) ?_
        refine lv_iload_n hx hb dX10_cell_95 rfl (lv_at hl 1 rfl) ?_
        refine lv_imul hx hb dX10_cell_96 ?_
        refine lv_iload_n hx hb dX10_cell_97 rfl (lv_at hl 2 rfl) ?_
        refine lv_iadd hx hb dX10_cell_98 ?_
        obtain ⟨g8, hF⟩ := zgd_inv hF
        refine z_iald hx hb hK hP (by decide) (zm_a (n := 240) (by decide)) rfl g8 dX10_cell_99 ?_
        refine lv_i2l (v := ((σ4 3 ((((60 : Int32) * l1) + l2) : Int32).toNatClampNeg) : Int32).toInt64) hx hb dX10_cell_100 rfl ?_
        exact z_lret hx hb hr hlocks hN hK hP hD hS hF dX10_cell_101
      · have hF := zif_t b7 hF
        refine lv_aload_n hx hb dX10_cell_83 rfl (lv_at hl 0 rfl) ?_
        refine lv_iconst (v := (3 : Int32)) hx hb dX10_cell_84 (by decide) ?_
        obtain ⟨r10, σ9, hC11, hF⟩ := zbd_inv hF
        refine z_calll (va_runV (As := [.int (3 : Int32)]) (rest := []) ⟨hx, hb, hml, hown, hts⟩ (CX10_lost l D cI cS cP ad A n σ4 σ9 r10 (3 : Int32) hC11) (cwV 1 hts gX10_cell_X10_lost rfl rfl rfl (by decide +kernel) ⟨Nat.le_of_ble_eq_true rfl, Nat.le_of_ble_eq_true rfl⟩) (z_preV hN hK hP hD (by decide) zm_0 rfl) rfl rfl hl.1 rfl (lv_room (Nat.le_of_ble_eq_true rfl)) dX10_cell_85 ⟨Nat.zero_le _, Nat.zero_le _⟩) hS (fun H locs hP hD hS => ?_)
        exact z_lret hx hb hr hlocks hN hK hP hD hS hF dX10_cell_88
    · have hF := zif_t b2 hF
      refine lv_aload_n hx hb dX10_cell_61 rfl (lv_at hl 0 rfl) ?_
      refine lv_iconst (v := (1 : Int32)) hx hb dX10_cell_62 (by decide) ?_
      obtain ⟨r13, σ12, hC14, hF⟩ := zbd_inv hF
      refine z_calll (va_runV (As := [.int (1 : Int32)]) (rest := []) ⟨hx, hb, hml, hown, hts⟩ (CX10_lost l D cI cS cP ad A n σ σ12 r13 (1 : Int32) hC14) (cwV 1 hts gX10_cell_X10_lost rfl rfl rfl (by decide +kernel) ⟨Nat.le_of_ble_eq_true rfl, Nat.le_of_ble_eq_true rfl⟩) (z_preV hN hK hP hD (by decide) zm_0 rfl) rfl rfl hl.1 rfl (lv_room (Nat.le_of_ble_eq_true rfl)) dX10_cell_63 ⟨Nat.zero_le _, Nat.zero_le _⟩) hS (fun H locs hP hD hS => ?_)
      exact z_lret hx hb hr hlocks hN hK hP hD hS hF dX10_cell_66
  unfold FX10_cell at hF
  refine lv_aload_n hx hb dX10_cell_0 rfl (lv_at hl 0 rfl) ?_
  refine lv_iconst (v := (0 : Int32)) hx hb dX10_cell_1 (by decide) ?_
  obtain ⟨σ15, eσ15, hF⟩ := zlet_inv hF
  refine z_put (ci := 9) (C := RX10) (T := TX10) (N := 32) hx hb hts iX10_cell_X10 tyX10 tyX10_ok nmX10 hown hK hP hD hS (by decide) zm_0 rfl 0 (by decide) kX10_cell_f67 rfl rfl rfl rfl (Nat.le_of_ble_eq_true rfl) zm_0 dX10_cell_2 (fun H locs hP hD hS => ?_)
  have hP : va_P D vwCl (zW (zm cI ad) 20 ad σ15) H := by rw [eσ15]; exact hP
  have hD : va_D A (zW (zm cI ad) 20 ad σ15) := by rw [eσ15]; exact hD
  refine lv_iload_n hx hb dX10_cell_5 rfl (lv_at hl 1 rfl) ?_
  obtain ⟨r17, σ16, hC18, hF⟩ := zbd_inv hF
  refine z_calli (va_runS (As := [.int p1]) (rest := []) ⟨hx, hb, hml, hown, hts⟩ (CX10_isSheet l D cI cS cP ad A n σ15 σ16 r17 p1 hC18) (va_cwS 1 hts gX10_cell_X10_isSheet rfl rfl rfl (by decide +kernel) ⟨Nat.le_of_ble_eq_true rfl, Nat.le_of_ble_eq_true rfl⟩) (z_preS hN hK hP hD) rfl rfl hl.1 rfl (lv_room (Nat.le_of_ble_eq_true rfl)) dX10_cell_6 ⟨Nat.zero_le _, Nat.zero_le _⟩) hS (fun H locs hP hD hS => ?_)
  refine lv_if_eq (tgt := 19) hx hb dX10_cell_9 (by decide) (fun b19 => ?_) (fun b19 => ?_)
  · have hF := zif_t b19 hF
    refine lv_ldc2 (v := (-9223372036854775808 : Int64)) hx hb hown (hts _ kX10_cell_L71) dX10_cell_19 ?_
    exact z_lret hx hb hr hlocks hN hK hP hD hS hF dX10_cell_22
  · have hF := zif_f b19 hF
    refine lv_iload_n hx hb dX10_cell_12 rfl (lv_at hl 3 rfl) ?_
    obtain ⟨r21, σ20, hC22, hF⟩ := zbd_inv hF
    refine z_calli (va_runS (As := [.int p3]) (rest := []) ⟨hx, hb, hml, hown, hts⟩ (CX10_isSort l D cI cS cP ad A n σ16 σ20 r21 p3 hC22) (va_cwS 1 hts gX10_cell_X10_isSort rfl rfl rfl (by decide +kernel) ⟨Nat.le_of_ble_eq_true rfl, Nat.le_of_ble_eq_true rfl⟩) (z_preS hN hK hP hD) rfl rfl hl.1 rfl (lv_room (Nat.le_of_ble_eq_true rfl)) dX10_cell_13 ⟨Nat.zero_le _, Nat.zero_le _⟩) hS (fun H locs hP hD hS => ?_)
    refine lv_if_ne (tgt := 23) hx hb dX10_cell_16 (by decide) (fun b23 => ?_) (fun b23 => ?_)
    · have hF := zif_f b23 hF
      refine lv_aload_n hx hb dX10_cell_23 rfl (lv_at hl 0 rfl) ?_
      refine z_get (ci := 9) (C := RX10) (T := TX10) (N := 32) hx hb hts iX10_cell_X10 hown hK hP (by decide) zm_0 rfl 2 (by decide) kX10_cell_f9 rfl (v := .ref (ad 1)) rfl dX10_cell_24 ?_
      refine lv_iload_n hx hb dX10_cell_27 rfl (lv_at hl 1 rfl) ?_
      obtain ⟨g24, hF⟩ := zgd_inv hF
      refine z_iald hx hb hK hP (by decide) (zm_a (n := 4) (by decide)) rfl g24 dX10_cell_28 ?_
      refine lv_bipush (v := (-9 : Int32)) hx hb dX10_cell_29 (by decide) ?_
      refine lv_icmp_eq (tgt := 50) hx hb dX10_cell_31 (by decide) (fun b25 => ?_) (fun b25 => ?_)
      · have hF := zif_t b25 hF
        exact hB50 σ20 p1 p2 p3 _ _ _ hF hP hD hS (lv_sub hl [0, 1, 2, 3] rfl)
      · have hF := zif_f b25 hF
        refine lv_aload_n hx hb dX10_cell_34 rfl (lv_at hl 0 rfl) ?_
        refine z_get (ci := 9) (C := RX10) (T := TX10) (N := 32) hx hb hts iX10_cell_X10 hown hK hP (by decide) zm_0 rfl 2 (by decide) kX10_cell_f9 rfl (v := .ref (ad 1)) rfl dX10_cell_35 ?_
        refine lv_iload_n hx hb dX10_cell_38 rfl (lv_at hl 1 rfl) ?_
        obtain ⟨g26, hF⟩ := zgd_inv hF
        refine z_iald hx hb hK hP (by decide) (zm_a (n := 4) (by decide)) rfl g26 dX10_cell_39 ?_
        refine lv_iload_n hx hb dX10_cell_40 rfl (lv_at hl 3 rfl) ?_
        refine lv_icmp_eq (tgt := 50) hx hb dX10_cell_41 (by decide) (fun b27 => ?_) (fun b27 => ?_)
        · have hF := zif_t b27 hF
          exact hB50 σ20 p1 p2 p3 _ _ _ hF hP hD hS (lv_sub hl [0, 1, 2, 3] rfl)
        · have hF := zif_f b27 hF
          refine lv_aload_n hx hb dX10_cell_44 rfl (lv_at hl 0 rfl) ?_
          refine lv_iconst (v := (2 : Int32)) hx hb dX10_cell_45 (by decide) ?_
          obtain ⟨r29, σ28, hC30, hF⟩ := zbd_inv hF
          refine z_calll (va_runV (As := [.int (2 : Int32)]) (rest := []) ⟨hx, hb, hml, hown, hts⟩ (CX10_lost l D cI cS cP ad A n σ20 σ28 r29 (2 : Int32) hC30) (cwV 1 hts gX10_cell_X10_lost rfl rfl rfl (by decide +kernel) ⟨Nat.le_of_ble_eq_true rfl, Nat.le_of_ble_eq_true rfl⟩) (z_preV hN hK hP hD (by decide) zm_0 rfl) rfl rfl hl.1 rfl (lv_room (Nat.le_of_ble_eq_true rfl)) dX10_cell_46 ⟨Nat.zero_le _, Nat.zero_le _⟩) hS (fun H locs hP hD hS => ?_)
          exact z_lret hx hb hr hlocks hN hK hP hD hS hF dX10_cell_49
    · have hF := zif_t b23 hF
      refine lv_ldc2 (v := (-9223372036854775808 : Int64)) hx hb hown (hts _ kX10_cell_L71) dX10_cell_19 ?_
      exact z_lret hx hb hr hlocks hN hK hP hD hS hF dX10_cell_22
theorem kX10_copy_f16 : Cond.fieldLink RX10 16 "LeastAskedModel" "cells" "[I" ∈ wsX10_copy := by decide +kernel
theorem kX10_copy_f13 : Cond.fieldLink RX10 13 "LeastAskedModel" "sheetLong" "[I" ∈ wsX10_copy := by decide +kernel
theorem kX10_copy_f67 : Cond.fieldLink RX10 67 "LeastAskedModel" "fault" "I" ∈ wsX10_copy := by decide +kernel
theorem kX10_copy_f9 : Cond.fieldLink RX10 9 "LeastAskedModel" "sorts" "[I" ∈ wsX10_copy := by decide +kernel
theorem iX10_copy_X10 : ∀ w ∈ u_ws RX10 TX10 32, w ∈ wsX10_copy := fun _ h => List.mem_cons_of_mem _ (List.mem_append_right _ h)
set_option maxHeartbeats 4000000 in
set_option maxRecDepth 100000 in
theorem CX10_copy (l : Launch) (D : va_G) (cI cS cP : ClassId) (ad : Nat → Nat) (A : Nat → Prop) (n : Nat) (σ σ' : zMem) (r0 : Int32) (p1 : Int32) (p2 : Int32) (p3 : Int32) (p4 : Int32) (p5 : Int32) (hF : FX10_copy n σ p1 p2 p3 p4 p5 = some (r0, σ')) : Met l yX10_copy wsX10_copy ({ frames := 2, cells := 0, slots := 0, locals := 42 } : Room) (va_Pc [.ref (ad 0), .int p1, .int p2, .int p3, .int p4, .int p5] (zB (zm cI ad) 20 ad D (zty cI cS cP) A σ)) (va_Qi (fun r u => r = r0 ∧ u = σ') (zB (zm cI ad) 20 ad D (zty cI cS cP) A) A) 0 0 A := by
  refine Met.ofW (cc := cX10_copy) (maxL := 10) (ret := (some .int)) (by decide) rfl ?_
  intro p e s m args below meth c s₁ B hml hv
  obtain ⟨rfl, hP, hK, hD, hN⟩ := hv
  have hx := B.exec
  have hb := B.bytes
  have hr := B.returns
  have hts := atoms_spec (ws := wsX10_copy) B.pre
  have hown : s.vm.findClass RX10 = some m.cls := findClass_of_methodNamed B.named
  have hlocks := B.notSynchronized
  have hS : va_S A s.heap s.heap [] := va_S.rf
  have hl := lv_entry ([.ref (ad 0), .int p1, .int p2, .int p3, .int p4, .int p5]) (n := 10) (Nat.le_of_ble_eq_true rfl)
  rw [lg_entry_eq]
  generalize (lg_sl ([.ref (ad 0), .int p1, .int p2, .int p3, .int p4, .int p5]) ++ List.replicate (10 - (lg_sl ([.ref (ad 0), .int p1, .int p2, .int p3, .int p4, .int p5])).length) Slot.unset).toArray = ls at hl ⊢
  have hl : lv_has ls 10 [(0, .ref (ad 0)), (1, .int p1), (2, .int p2), (3, .int p3), (4, .int p4), (5, .int p5)] := hl
  clear B
  have hB166 : ∀ (f166 : Nat) (σ : zMem) (l1 : Int32) (l2 : Int32) (l3 : Int32) (l4 : Int32) (l5 : Int32) (l6 : Int32) (l7 : Int32) (l8 : Int32), ∀ (H : Heap) (locs : List Loc) (ls : Array Slot), zlp (LX10_copy_166 n) f166 (σ, l1, l2, l3, l4, l5, l6, l7, l8) = some (r0, σ') → va_P D vwCl (zW (zm cI ad) 20 ad σ) H → va_D A (zW (zm cI ad) 20 ad σ) → va_S A s.heap H locs → lv_has ls 10 [(0, .ref (ad 0)), (1, .int l1), (2, .int l2), (3, .int l3), (4, .int l4), (5, .int l5), (6, .int l6), (7, .int l7), (8, .int l8)] → W p l e (headSpec wsX10_copy ({ frames := 2, cells := 0, slots := 0, locals := 42 } : Room)).room s m ([.ref (ad 0), .int p1, .int p2, .int p3, .int p4, .int p5] : List Value).toArray below meth c H locs 0 0 (MQ below (va_Qi (fun r u => r = r0 ∧ u = σ') (zB (zm cI ad) 20 ad D (zty cI cS cP) A) A) ([.ref (ad 0), .int p1, .int p2, .int p3, .int p4, .int p5] : List Value).toArray s 0 0 A) (F0 m 166 ls []) := by
    intro f166
    induction f166 with
    | zero => intro σ l1 l2 l3 l4 l5 l6 l7 l8 H locs ls hF hP hD hS hl; exact (zlp_0 hF).elim
    | succ f166 ih166 =>
      have hB190 : ∀ (σ : zMem) (l1 : Int32) (l2 : Int32) (l3 : Int32) (l4 : Int32) (l5 : Int32) (l6 : Int32) (l7 : Int32) (l8 : Int32) (s0 : Int32), ∀ (H : Heap) (locs : List Loc) (ls : Array Slot), BX10_copy_190 n (zlp (LX10_copy_166 n) f166) σ l1 l2 l3 l4 l5 l6 l7 l8 s0 = some (r0, σ') → va_P D vwCl (zW (zm cI ad) 20 ad σ) H → va_D A (zW (zm cI ad) 20 ad σ) → va_S A s.heap H locs → lv_has ls 10 [(0, .ref (ad 0)), (1, .int l1), (2, .int l2), (3, .int l3), (4, .int l4), (5, .int l5), (6, .int l6), (7, .int l7), (8, .int l8)] → W p l e (headSpec wsX10_copy ({ frames := 2, cells := 0, slots := 0, locals := 42 } : Room)).room s m ([.ref (ad 0), .int p1, .int p2, .int p3, .int p4, .int p5] : List Value).toArray below meth c H locs 0 0 (MQ below (va_Qi (fun r u => r = r0 ∧ u = σ') (zB (zm cI ad) 20 ad D (zty cI cS cP) A) A) ([.ref (ad 0), .int p1, .int p2, .int p3, .int p4, .int p5] : List Value).toArray s 0 0 A) (F0 m 190 ls [.int s0]) := by
        intro σ l1 l2 l3 l4 l5 l6 l7 l8 s0 H locs ls hF hP hD hS hl
        unfold BX10_copy_190 at hF
        refine lv_istore (lv' := [(9, .int s0), (0, .ref (ad 0)), (1, .int l1), (2, .int l2), (3, .int l3), (4, .int l4), (5, .int l5), (6, .int l6), (7, .int l7), (8, .int l8)]) hx hb dX10_copy_190 hl (by decide) rfl (fun ls hl => ?_)
        refine lv_aload_n hx hb dX10_copy_192 rfl (lv_at hl 1 rfl) ?_
        refine z_get (ci := 9) (C := RX10) (T := TX10) (N := 32) hx hb hts iX10_copy_X10 hown hK hP (by decide) zm_0 rfl 4 (by decide) kX10_copy_f16 rfl (v := .ref (ad 3)) rfl dX10_copy_193 ?_
        refine lv_bipush (v := (60 : Int32)) hx hb dX10_copy_196 (by decide) ?_
        refine lv_iload_n hx hb dX10_copy_198 rfl (lv_at hl 4 rfl) ?_
        refine lv_imul hx hb dX10_copy_199 ?_
        refine lv_iload hx hb dX10_copy_200 (lv_at hl 5 rfl) ?_
        refine lv_iadd hx hb dX10_copy_202 ?_
        refine lv_iload hx hb dX10_copy_203 (lv_at hl 0 rfl) ?_
        refine lv_iadd hx hb dX10_copy_205 ?_
        refine lv_aload_n hx hb dX10_copy_206 rfl (lv_at hl 1 rfl) ?_
        refine z_get (ci := 9) (C := RX10) (T := TX10) (N := 32) hx hb hts iX10_copy_X10 hown hK hP (by decide) zm_0 rfl 4 (by decide) kX10_copy_f16 rfl (v := .ref (ad 3)) rfl dX10_copy_207 ?_
        refine lv_bipush (v := (60 : Int32)) hx hb dX10_copy_210 (by decide) ?_
        refine lv_iload_n hx hb dX10_copy_212 rfl (lv_at hl 2 rfl) ?_
        refine lv_imul hx hb dX10_copy_213 ?_
        refine lv_iload_n hx hb dX10_copy_214 rfl (lv_at hl 3 rfl) ?_
        refine lv_iadd hx hb dX10_copy_215 ?_
        refine lv_iload hx hb dX10_copy_216 (lv_at hl 0 rfl) ?_
        refine lv_iadd hx hb dX10_copy_218 ?_
        obtain ⟨g1, hF⟩ := zgd_inv hF
        refine z_iald hx hb hK hP (by decide) (zm_a (n := 240) (by decide)) rfl g1 dX10_copy_219 ?_
        obtain ⟨g2, hF⟩ := zgd_inv hF
        obtain ⟨σ3, eσ3, hF⟩ := zlet_inv hF
        refine z_iast hx hb hK hP hD hS (by decide) (fun _ => (zm_a (n := 240) (by decide))) rfl g2 dX10_copy_220 (fun H locs hP hD hS => ?_)
        have hP : va_P D vwCl (zW (zm cI ad) 20 ad σ3) H := by rw [eσ3]; exact hP
        have hD : va_D A (zW (zm cI ad) 20 ad σ3) := by rw [eσ3]; exact hD
        refine lv_iinc (v := (l8 + (1 : Int32))) (lv' := [(8, .int (l8 + (1 : Int32))), (9, .int s0), (0, .ref (ad 0)), (1, .int l1), (2, .int l2), (3, .int l3), (4, .int l4), (5, .int l5), (6, .int l6), (7, .int l7)]) hx hb dX10_copy_221 hl (k := 9) rfl rfl (by decide) rfl (fun ls hl => ?_)
        refine lv_goto (tgt := 166) hx hb dX10_copy_224 (by decide) ?_
        exact ih166 σ3 l1 l2 l3 l4 l5 l6 l7 (l8 + (1 : Int32)) _ _ _ hF hP hD hS (lv_sub hl [2, 3, 4, 5, 6, 7, 8, 9, 0] rfl)
      intro σ l1 l2 l3 l4 l5 l6 l7 l8 H locs ls hF hP hD hS hl
      have hF : LBX10_copy_166 n   (zlp (LX10_copy_166 n) f166) σ l1 l2 l3 l4 l5 l6 l7 l8 = some (r0, σ') := hF
      unfold LBX10_copy_166 at hF
      refine lv_iload hx hb dX10_copy_166 (lv_at hl 8 rfl) ?_
      refine lv_iload hx hb dX10_copy_168 (lv_at hl 5 rfl) ?_
      refine lv_icmp_ge (tgt := 227) hx hb dX10_copy_170 (by decide) (fun b4 => ?_) (fun b4 => ?_)
      · have hF := zif_t b4 hF
        refine lv_iload hx hb dX10_copy_227 (lv_at hl 5 rfl) ?_
        exact z_iret hx hb hr hlocks hN hK hP hD hS hF dX10_copy_229
      · have hF := zif_f b4 hF
        refine lv_iload hx hb dX10_copy_173 (lv_at hl 7 rfl) ?_
        refine lv_if_eq (tgt := 188) hx hb dX10_copy_175 (by decide) (fun b5 => ?_) (fun b5 => ?_)
        · have hF := zif_t b5 hF
          refine lv_iload hx hb dX10_copy_188 (lv_at hl 8 rfl) ?_
          exact hB190 σ l1 l2 l3 l4 l5 l6 l7 l8 l8 _ _ _ hF hP hD hS (lv_sub hl [0, 1, 2, 3, 4, 5, 6, 7, 8] rfl)
        · have hF := zif_f b5 hF
          refine lv_iload hx hb dX10_copy_178 (lv_at hl 5 rfl) ?_
          refine lv_iconst (v := (1 : Int32)) hx hb dX10_copy_180 (by decide) ?_
          refine lv_isub hx hb dX10_copy_181 ?_
          refine lv_iload hx hb dX10_copy_182 (lv_at hl 8 rfl) ?_
          refine lv_isub hx hb dX10_copy_184 ?_
          refine lv_goto (tgt := 190) hx hb dX10_copy_185 (by decide) ?_
          exact hB190 σ l1 l2 l3 l4 l5 l6 l7 l8 ((l5 - (1 : Int32)) - l8) _ _ _ hF hP hD hS (lv_sub hl [0, 1, 2, 3, 4, 5, 6, 7, 8] rfl)
  have hB161 : ∀ (σ : zMem) (l1 : Int32) (l2 : Int32) (l3 : Int32) (l4 : Int32) (l5 : Int32) (l6 : Int32) (s0 : Int32), ∀ (H : Heap) (locs : List Loc) (ls : Array Slot), BX10_copy_161 n σ l1 l2 l3 l4 l5 l6 s0 = some (r0, σ') → va_P D vwCl (zW (zm cI ad) 20 ad σ) H → va_D A (zW (zm cI ad) 20 ad σ) → va_S A s.heap H locs → lv_has ls 10 [(0, .ref (ad 0)), (1, .int l1), (2, .int l2), (3, .int l3), (4, .int l4), (5, .int l5), (6, .int l6)] → W p l e (headSpec wsX10_copy ({ frames := 2, cells := 0, slots := 0, locals := 42 } : Room)).room s m ([.ref (ad 0), .int p1, .int p2, .int p3, .int p4, .int p5] : List Value).toArray below meth c H locs 0 0 (MQ below (va_Qi (fun r u => r = r0 ∧ u = σ') (zB (zm cI ad) 20 ad D (zty cI cS cP) A) A) ([.ref (ad 0), .int p1, .int p2, .int p3, .int p4, .int p5] : List Value).toArray s 0 0 A) (F0 m 161 ls [.int s0]) := by
    intro σ l1 l2 l3 l4 l5 l6 s0 H locs ls hF hP hD hS hl
    unfold BX10_copy_161 at hF
    refine lv_istore (lv' := [(7, .int s0), (0, .ref (ad 0)), (1, .int l1), (2, .int l2), (3, .int l3), (4, .int l4), (5, .int l5), (6, .int l6)]) hx hb dX10_copy_161 hl (by decide) rfl (fun ls hl => ?_)
    refine lv_iconst (v := (0 : Int32)) hx hb dX10_copy_163 (by decide) ?_
    refine lv_istore (lv' := [(8, .int (0 : Int32)), (7, .int s0), (0, .ref (ad 0)), (1, .int l1), (2, .int l2), (3, .int l3), (4, .int l4), (5, .int l5), (6, .int l6)]) hx hb dX10_copy_164 hl (by decide) rfl (fun ls hl => ?_)
    exact hB166 n σ l1 l2 l3 l4 l5 l6 s0 (0 : Int32) _ _ _ hF hP hD hS (lv_sub hl [2, 3, 4, 5, 6, 7, 8, 1, 0] rfl)
  have hB144 : ∀ (σ : zMem) (l1 : Int32) (l2 : Int32) (l3 : Int32) (l4 : Int32) (l5 : Int32) (l6 : Int32), ∀ (H : Heap) (locs : List Loc) (ls : Array Slot), BX10_copy_144 n σ l1 l2 l3 l4 l5 l6 = some (r0, σ') → va_P D vwCl (zW (zm cI ad) 20 ad σ) H → va_D A (zW (zm cI ad) 20 ad σ) → va_S A s.heap H locs → lv_has ls 10 [(0, .ref (ad 0)), (1, .int l1), (2, .int l2), (3, .int l3), (4, .int l4), (5, .int l5), (6, .int l6)] → W p l e (headSpec wsX10_copy ({ frames := 2, cells := 0, slots := 0, locals := 42 } : Room)).room s m ([.ref (ad 0), .int p1, .int p2, .int p3, .int p4, .int p5] : List Value).toArray below meth c H locs 0 0 (MQ below (va_Qi (fun r u => r = r0 ∧ u = σ') (zB (zm cI ad) 20 ad D (zty cI cS cP) A) A) ([.ref (ad 0), .int p1, .int p2, .int p3, .int p4, .int p5] : List Value).toArray s 0 0 A) (F0 m 144 ls []) := by
    intro σ l1 l2 l3 l4 l5 l6 H locs ls hF hP hD hS hl
    unfold BX10_copy_144 at hF
    refine lv_aload_n hx hb dX10_copy_144 rfl (lv_at hl 0 rfl) ?_
    refine lv_iconst (v := (3 : Int32)) hx hb dX10_copy_145 (by decide) ?_
    obtain ⟨r7, σ6, hC8, hF⟩ := zbd_inv hF
    refine z_calli (va_runV (As := [.int (3 : Int32)]) (rest := []) ⟨hx, hb, hml, hown, hts⟩ (CX10_fails l D cI cS cP ad A n σ σ6 r7 (3 : Int32) hC8) (cwV 1 hts gX10_copy_X10_fails rfl rfl rfl (by decide +kernel) ⟨Nat.le_of_ble_eq_true rfl, Nat.le_of_ble_eq_true rfl⟩) (z_preV hN hK hP hD (by decide) zm_0 rfl) rfl rfl hl.1 rfl (lv_room (Nat.le_of_ble_eq_true rfl)) dX10_copy_146 ⟨Nat.zero_le _, Nat.zero_le _⟩) hS (fun H locs hP hD hS => ?_)
    exact z_iret hx hb hr hlocks hN hK hP hD hS hF dX10_copy_149
  have hB110 : ∀ (σ : zMem) (l1 : Int32) (l2 : Int32) (l3 : Int32) (l4 : Int32) (l5 : Int32) (s0 : Int32), ∀ (H : Heap) (locs : List Loc) (ls : Array Slot), BX10_copy_110 n σ l1 l2 l3 l4 l5 s0 = some (r0, σ') → va_P D vwCl (zW (zm cI ad) 20 ad σ) H → va_D A (zW (zm cI ad) 20 ad σ) → va_S A s.heap H locs → lv_has ls 10 [(0, .ref (ad 0)), (1, .int l1), (2, .int l2), (3, .int l3), (4, .int l4), (5, .int l5)] → W p l e (headSpec wsX10_copy ({ frames := 2, cells := 0, slots := 0, locals := 42 } : Room)).room s m ([.ref (ad 0), .int p1, .int p2, .int p3, .int p4, .int p5] : List Value).toArray below meth c H locs 0 0 (MQ below (va_Qi (fun r u => r = r0 ∧ u = σ') (zB (zm cI ad) 20 ad D (zty cI cS cP) A) A) ([.ref (ad 0), .int p1, .int p2, .int p3, .int p4, .int p5] : List Value).toArray s 0 0 A) (F0 m 110 ls [.int s0]) := by
    intro σ l1 l2 l3 l4 l5 s0 H locs ls hF hP hD hS hl
    unfold BX10_copy_110 at hF
    refine lv_istore (lv' := [(6, .int s0), (0, .ref (ad 0)), (1, .int l1), (2, .int l2), (3, .int l3), (4, .int l4), (5, .int l5)]) hx hb dX10_copy_110 hl (by decide) rfl (fun ls hl => ?_)
    refine lv_iload hx hb dX10_copy_112 (lv_at hl 0 rfl) ?_
    refine lv_if_eq (tgt := 144) hx hb dX10_copy_114 (by decide) (fun b9 => ?_) (fun b9 => ?_)
    · have hF := zif_t b9 hF
      exact hB144 σ l1 l2 l3 l4 l5 s0 _ _ _ hF hP hD hS (lv_sub hl [1, 2, 3, 4, 5, 6, 0] rfl)
    · have hF := zif_f b9 hF
      refine lv_iload hx hb dX10_copy_117 (lv_at hl 6 rfl) ?_
      refine lv_aload_n hx hb dX10_copy_119 rfl (lv_at hl 1 rfl) ?_
      refine z_get (ci := 9) (C := RX10) (T := TX10) (N := 32) hx hb hts iX10_copy_X10 hown hK hP (by decide) zm_0 rfl 3 (by decide) kX10_copy_f13 rfl (v := .ref (ad 2)) rfl dX10_copy_120 ?_
      refine lv_iload_n hx hb dX10_copy_123 rfl (lv_at hl 2 rfl) ?_
      obtain ⟨g10, hF⟩ := zgd_inv hF
      refine z_iald hx hb hK hP (by decide) (zm_a (n := 4) (by decide)) rfl g10 dX10_copy_124 ?_
      refine lv_iload_n hx hb dX10_copy_125 rfl (lv_at hl 3 rfl) ?_
      refine lv_isub hx hb dX10_copy_126 ?_
      refine lv_icmp_gt (tgt := 144) hx hb dX10_copy_127 (by decide) (fun b11 => ?_) (fun b11 => ?_)
      · have hF := zif_t b11 hF
        exact hB144 σ l1 l2 l3 l4 l5 s0 _ _ _ hF hP hD hS (lv_sub hl [1, 2, 3, 4, 5, 6, 0] rfl)
      · have hF := zif_f b11 hF
        refine lv_iload hx hb dX10_copy_130 (lv_at hl 6 rfl) ?_
        refine lv_aload_n hx hb dX10_copy_132 rfl (lv_at hl 1 rfl) ?_
        refine z_get (ci := 9) (C := RX10) (T := TX10) (N := 32) hx hb hts iX10_copy_X10 hown hK hP (by decide) zm_0 rfl 3 (by decide) kX10_copy_f13 rfl (v := .ref (ad 2)) rfl dX10_copy_133 ?_
        refine lv_iload_n hx hb dX10_copy_136 rfl (lv_at hl 4 rfl) ?_
        obtain ⟨g12, hF⟩ := zgd_inv hF
        refine z_iald hx hb hK hP (by decide) (zm_a (n := 4) (by decide)) rfl g12 dX10_copy_137 ?_
        refine lv_iload hx hb dX10_copy_138 (lv_at hl 5 rfl) ?_
        refine lv_isub hx hb dX10_copy_140 ?_
        refine lv_icmp_le (tgt := 150) hx hb dX10_copy_141 (by decide) (fun b13 => ?_) (fun b13 => ?_)
        · have hF := zif_t b13 hF
          refine lv_iload_n hx hb dX10_copy_150 rfl (lv_at hl 3 rfl) ?_
          refine lv_iload hx hb dX10_copy_151 (lv_at hl 5 rfl) ?_
          refine lv_icmp_ge (tgt := 160) hx hb dX10_copy_153 (by decide) (fun b14 => ?_) (fun b14 => ?_)
          · have hF := zif_t b14 hF
            refine lv_iconst (v := (0 : Int32)) hx hb dX10_copy_160 (by decide) ?_
            exact hB161 σ l1 l2 l3 l4 l5 s0 (0 : Int32) _ _ _ hF hP hD hS (lv_sub hl [1, 2, 3, 4, 5, 6, 0] rfl)
          · have hF := zif_f b14 hF
            refine lv_iconst (v := (1 : Int32)) hx hb dX10_copy_156 (by decide) ?_
            refine lv_goto (tgt := 161) hx hb dX10_copy_157 (by decide) ?_
            exact hB161 σ l1 l2 l3 l4 l5 s0 (1 : Int32) _ _ _ hF hP hD hS (lv_sub hl [1, 2, 3, 4, 5, 6, 0] rfl)
        · have hF := zif_f b13 hF
          exact hB144 σ l1 l2 l3 l4 l5 s0 _ _ _ hF hP hD hS (lv_sub hl [1, 2, 3, 4, 5, 6, 0] rfl)
  have hB109 : ∀ (σ : zMem) (l1 : Int32) (l2 : Int32) (l3 : Int32) (l4 : Int32) (l5 : Int32), ∀ (H : Heap) (locs : List Loc) (ls : Array Slot), BX10_copy_109 n σ l1 l2 l3 l4 l5 = some (r0, σ') → va_P D vwCl (zW (zm cI ad) 20 ad σ) H → va_D A (zW (zm cI ad) 20 ad σ) → va_S A s.heap H locs → lv_has ls 10 [(0, .ref (ad 0)), (1, .int l1), (2, .int l2), (3, .int l3), (4, .int l4), (5, .int l5)] → W p l e (headSpec wsX10_copy ({ frames := 2, cells := 0, slots := 0, locals := 42 } : Room)).room s m ([.ref (ad 0), .int p1, .int p2, .int p3, .int p4, .int p5] : List Value).toArray below meth c H locs 0 0 (MQ below (va_Qi (fun r u => r = r0 ∧ u = σ') (zB (zm cI ad) 20 ad D (zty cI cS cP) A) A) ([.ref (ad 0), .int p1, .int p2, .int p3, .int p4, .int p5] : List Value).toArray s 0 0 A) (F0 m 109 ls []) := by
    intro σ l1 l2 l3 l4 l5 H locs ls hF hP hD hS hl
    unfold BX10_copy_109 at hF
    refine lv_iconst (v := (0 : Int32)) hx hb dX10_copy_109 (by decide) ?_
    exact hB110 σ l1 l2 l3 l4 l5 (0 : Int32) _ _ _ hF hP hD hS (lv_sub hl [0, 1, 2, 3, 4, 5] rfl)
  have hB43 : ∀ (σ : zMem) (l1 : Int32) (l2 : Int32) (l3 : Int32) (l4 : Int32) (l5 : Int32), ∀ (H : Heap) (locs : List Loc) (ls : Array Slot), BX10_copy_43 n σ l1 l2 l3 l4 l5 = some (r0, σ') → va_P D vwCl (zW (zm cI ad) 20 ad σ) H → va_D A (zW (zm cI ad) 20 ad σ) → va_S A s.heap H locs → lv_has ls 10 [(0, .ref (ad 0)), (1, .int l1), (2, .int l2), (3, .int l3), (4, .int l4), (5, .int l5)] → W p l e (headSpec wsX10_copy ({ frames := 2, cells := 0, slots := 0, locals := 42 } : Room)).room s m ([.ref (ad 0), .int p1, .int p2, .int p3, .int p4, .int p5] : List Value).toArray below meth c H locs 0 0 (MQ below (va_Qi (fun r u => r = r0 ∧ u = σ') (zB (zm cI ad) 20 ad D (zty cI cS cP) A) A) ([.ref (ad 0), .int p1, .int p2, .int p3, .int p4, .int p5] : List Value).toArray s 0 0 A) (F0 m 43 ls []) := by
    intro σ l1 l2 l3 l4 l5 H locs ls hF hP hD hS hl
    unfold BX10_copy_43 at hF
    refine lv_aload_n hx hb dX10_copy_43 rfl (lv_at hl 0 rfl) ?_
    refine lv_iconst (v := (1 : Int32)) hx hb dX10_copy_44 (by decide) ?_
    obtain ⟨r16, σ15, hC17, hF⟩ := zbd_inv hF
    refine z_calli (va_runV (As := [.int (1 : Int32)]) (rest := []) ⟨hx, hb, hml, hown, hts⟩ (CX10_fails l D cI cS cP ad A n σ σ15 r16 (1 : Int32) hC17) (cwV 1 hts gX10_copy_X10_fails rfl rfl rfl (by decide +kernel) ⟨Nat.le_of_ble_eq_true rfl, Nat.le_of_ble_eq_true rfl⟩) (z_preV hN hK hP hD (by decide) zm_0 rfl) rfl rfl hl.1 rfl (lv_room (Nat.le_of_ble_eq_true rfl)) dX10_copy_45 ⟨Nat.zero_le _, Nat.zero_le _⟩) hS (fun H locs hP hD hS => ?_)
    exact z_iret hx hb hr hlocks hN hK hP hD hS hF dX10_copy_48
  unfold FX10_copy at hF
  refine lv_aload_n hx hb dX10_copy_0 rfl (lv_at hl 0 rfl) ?_
  refine lv_iconst (v := (0 : Int32)) hx hb dX10_copy_1 (by decide) ?_
  obtain ⟨σ18, eσ18, hF⟩ := zlet_inv hF
  refine z_put (ci := 9) (C := RX10) (T := TX10) (N := 32) hx hb hts iX10_copy_X10 tyX10 tyX10_ok nmX10 hown hK hP hD hS (by decide) zm_0 rfl 0 (by decide) kX10_copy_f67 rfl rfl rfl rfl (Nat.le_of_ble_eq_true rfl) zm_0 dX10_copy_2 (fun H locs hP hD hS => ?_)
  have hP : va_P D vwCl (zW (zm cI ad) 20 ad σ18) H := by rw [eσ18]; exact hP
  have hD : va_D A (zW (zm cI ad) 20 ad σ18) := by rw [eσ18]; exact hD
  refine lv_iload_n hx hb dX10_copy_5 rfl (lv_at hl 1 rfl) ?_
  obtain ⟨r20, σ19, hC21, hF⟩ := zbd_inv hF
  refine z_calli (va_runS (As := [.int p1]) (rest := []) ⟨hx, hb, hml, hown, hts⟩ (CX10_isSheet l D cI cS cP ad A n σ18 σ19 r20 p1 hC21) (va_cwS 1 hts gX10_copy_X10_isSheet rfl rfl rfl (by decide +kernel) ⟨Nat.le_of_ble_eq_true rfl, Nat.le_of_ble_eq_true rfl⟩) (z_preS hN hK hP hD) rfl rfl hl.1 rfl (lv_room (Nat.le_of_ble_eq_true rfl)) dX10_copy_6 ⟨Nat.zero_le _, Nat.zero_le _⟩) hS (fun H locs hP hD hS => ?_)
  refine lv_if_eq (tgt := 19) hx hb dX10_copy_9 (by decide) (fun b22 => ?_) (fun b22 => ?_)
  · have hF := zif_t b22 hF
    refine lv_iconst (v := (-1 : Int32)) hx hb dX10_copy_19 (by decide) ?_
    exact z_iret hx hb hr hlocks hN hK hP hD hS hF dX10_copy_20
  · have hF := zif_f b22 hF
    refine lv_iload_n hx hb dX10_copy_12 rfl (lv_at hl 3 rfl) ?_
    obtain ⟨r24, σ23, hC25, hF⟩ := zbd_inv hF
    refine z_calli (va_runS (As := [.int p3]) (rest := []) ⟨hx, hb, hml, hown, hts⟩ (CX10_isSheet l D cI cS cP ad A n σ19 σ23 r24 p3 hC25) (va_cwS 1 hts gX10_copy_X10_isSheet rfl rfl rfl (by decide +kernel) ⟨Nat.le_of_ble_eq_true rfl, Nat.le_of_ble_eq_true rfl⟩) (z_preS hN hK hP hD) rfl rfl hl.1 rfl (lv_room (Nat.le_of_ble_eq_true rfl)) dX10_copy_13 ⟨Nat.zero_le _, Nat.zero_le _⟩) hS (fun H locs hP hD hS => ?_)
    refine lv_if_ne (tgt := 21) hx hb dX10_copy_16 (by decide) (fun b26 => ?_) (fun b26 => ?_)
    · have hF := zif_f b26 hF
      refine lv_aload_n hx hb dX10_copy_21 rfl (lv_at hl 0 rfl) ?_
      refine z_get (ci := 9) (C := RX10) (T := TX10) (N := 32) hx hb hts iX10_copy_X10 hown hK hP (by decide) zm_0 rfl 2 (by decide) kX10_copy_f9 rfl (v := .ref (ad 1)) rfl dX10_copy_22 ?_
      refine lv_iload_n hx hb dX10_copy_25 rfl (lv_at hl 1 rfl) ?_
      obtain ⟨g27, hF⟩ := zgd_inv hF
      refine z_iald hx hb hK hP (by decide) (zm_a (n := 4) (by decide)) rfl g27 dX10_copy_26 ?_
      refine lv_bipush (v := (-9 : Int32)) hx hb dX10_copy_27 (by decide) ?_
      refine lv_icmp_eq (tgt := 43) hx hb dX10_copy_29 (by decide) (fun b28 => ?_) (fun b28 => ?_)
      · have hF := zif_t b28 hF
        exact hB43 σ23 p1 p2 p3 p4 p5 _ _ _ hF hP hD hS (lv_sub hl [0, 1, 2, 3, 4, 5] rfl)
      · have hF := zif_f b28 hF
        refine lv_aload_n hx hb dX10_copy_32 rfl (lv_at hl 0 rfl) ?_
        refine z_get (ci := 9) (C := RX10) (T := TX10) (N := 32) hx hb hts iX10_copy_X10 hown hK hP (by decide) zm_0 rfl 2 (by decide) kX10_copy_f9 rfl (v := .ref (ad 1)) rfl dX10_copy_33 ?_
        refine lv_iload_n hx hb dX10_copy_36 rfl (lv_at hl 3 rfl) ?_
        obtain ⟨g29, hF⟩ := zgd_inv hF
        refine z_iald hx hb hK hP (by decide) (zm_a (n := 4) (by decide)) rfl g29 dX10_copy_37 ?_
        refine lv_bipush (v := (-9 : Int32)) hx hb dX10_copy_38 (by decide) ?_
        refine lv_icmp_ne (tgt := 49) hx hb dX10_copy_40 (by decide) (fun b30 => ?_) (fun b30 => ?_)
        · have hF := zif_f b30 hF
          refine lv_aload_n hx hb dX10_copy_49 rfl (lv_at hl 0 rfl) ?_
          refine z_get (ci := 9) (C := RX10) (T := TX10) (N := 32) hx hb hts iX10_copy_X10 hown hK hP (by decide) zm_0 rfl 2 (by decide) kX10_copy_f9 rfl (v := .ref (ad 1)) rfl dX10_copy_50 ?_
          refine lv_iload_n hx hb dX10_copy_53 rfl (lv_at hl 1 rfl) ?_
          obtain ⟨g31, hF⟩ := zgd_inv hF
          refine z_iald hx hb hK hP (by decide) (zm_a (n := 4) (by decide)) rfl g31 dX10_copy_54 ?_
          refine lv_aload_n hx hb dX10_copy_55 rfl (lv_at hl 0 rfl) ?_
          refine z_get (ci := 9) (C := RX10) (T := TX10) (N := 32) hx hb hts iX10_copy_X10 hown hK hP (by decide) zm_0 rfl 2 (by decide) kX10_copy_f9 rfl (v := .ref (ad 1)) rfl dX10_copy_56 ?_
          refine lv_iload_n hx hb dX10_copy_59 rfl (lv_at hl 3 rfl) ?_
          obtain ⟨g32, hF⟩ := zgd_inv hF
          refine z_iald hx hb hK hP (by decide) (zm_a (n := 4) (by decide)) rfl g32 dX10_copy_60 ?_
          refine lv_icmp_eq (tgt := 70) hx hb dX10_copy_61 (by decide) (fun b33 => ?_) (fun b33 => ?_)
          · have hF := zif_t b33 hF
            refine lv_iload_n hx hb dX10_copy_70 rfl (lv_at hl 2 rfl) ?_
            refine lv_if_lt (tgt := 109) hx hb dX10_copy_71 (by decide) (fun b34 => ?_) (fun b34 => ?_)
            · have hF := zif_t b34 hF
              exact hB109 σ23 p1 p2 p3 p4 p5 _ _ _ hF hP hD hS (lv_sub hl [0, 1, 2, 3, 4, 5] rfl)
            · have hF := zif_f b34 hF
              refine lv_iload hx hb dX10_copy_74 (lv_at hl 4 rfl) ?_
              refine lv_if_lt (tgt := 109) hx hb dX10_copy_76 (by decide) (fun b35 => ?_) (fun b35 => ?_)
              · have hF := zif_t b35 hF
                exact hB109 σ23 p1 p2 p3 p4 p5 _ _ _ hF hP hD hS (lv_sub hl [0, 1, 2, 3, 4, 5] rfl)
              · have hF := zif_f b35 hF
                refine lv_iload hx hb dX10_copy_79 (lv_at hl 5 rfl) ?_
                refine lv_if_lt (tgt := 109) hx hb dX10_copy_81 (by decide) (fun b36 => ?_) (fun b36 => ?_)
                · have hF := zif_t b36 hF
                  exact hB109 σ23 p1 p2 p3 p4 p5 _ _ _ hF hP hD hS (lv_sub hl [0, 1, 2, 3, 4, 5] rfl)
                · have hF := zif_f b36 hF
                  refine lv_iload_n hx hb dX10_copy_84 rfl (lv_at hl 2 rfl) ?_
                  refine lv_aload_n hx hb dX10_copy_85 rfl (lv_at hl 0 rfl) ?_
                  refine z_get (ci := 9) (C := RX10) (T := TX10) (N := 32) hx hb hts iX10_copy_X10 hown hK hP (by decide) zm_0 rfl 3 (by decide) kX10_copy_f13 rfl (v := .ref (ad 2)) rfl dX10_copy_86 ?_
                  refine lv_iload_n hx hb dX10_copy_89 rfl (lv_at hl 1 rfl) ?_
                  obtain ⟨g37, hF⟩ := zgd_inv hF
                  refine z_iald hx hb hK hP (by decide) (zm_a (n := 4) (by decide)) rfl g37 dX10_copy_90 ?_
                  refine lv_icmp_gt (tgt := 109) hx hb dX10_copy_91 (by decide) (fun b38 => ?_) (fun b38 => ?_)
                  · have hF := zif_t b38 hF
                    exact hB109 σ23 p1 p2 p3 p4 p5 _ _ _ hF hP hD hS (lv_sub hl [0, 1, 2, 3, 4, 5] rfl)
                  · have hF := zif_f b38 hF
                    refine lv_iload hx hb dX10_copy_94 (lv_at hl 4 rfl) ?_
                    refine lv_aload_n hx hb dX10_copy_96 rfl (lv_at hl 0 rfl) ?_
                    refine z_get (ci := 9) (C := RX10) (T := TX10) (N := 32) hx hb hts iX10_copy_X10 hown hK hP (by decide) zm_0 rfl 3 (by decide) kX10_copy_f13 rfl (v := .ref (ad 2)) rfl dX10_copy_97 ?_
                    refine lv_iload_n hx hb dX10_copy_100 rfl (lv_at hl 3 rfl) ?_
                    obtain ⟨g39, hF⟩ := zgd_inv hF
                    refine z_iald hx hb hK hP (by decide) (zm_a (n := 4) (by decide)) rfl g39 dX10_copy_101 ?_
                    refine lv_icmp_gt (tgt := 109) hx hb dX10_copy_102 (by decide) (fun b40 => ?_) (fun b40 => ?_)
                    · have hF := zif_t b40 hF
                      exact hB109 σ23 p1 p2 p3 p4 p5 _ _ _ hF hP hD hS (lv_sub hl [0, 1, 2, 3, 4, 5] rfl)
                    · have hF := zif_f b40 hF
                      refine lv_iconst (v := (1 : Int32)) hx hb dX10_copy_105 (by decide) ?_
                      refine lv_goto (tgt := 110) hx hb dX10_copy_106 (by decide) ?_
                      exact hB110 σ23 p1 p2 p3 p4 p5 (1 : Int32) _ _ _ hF hP hD hS (lv_sub hl [0, 1, 2, 3, 4, 5] rfl)
          · have hF := zif_f b33 hF
            refine lv_aload_n hx hb dX10_copy_64 rfl (lv_at hl 0 rfl) ?_
            refine lv_iconst (v := (2 : Int32)) hx hb dX10_copy_65 (by decide) ?_
            obtain ⟨r42, σ41, hC43, hF⟩ := zbd_inv hF
            refine z_calli (va_runV (As := [.int (2 : Int32)]) (rest := []) ⟨hx, hb, hml, hown, hts⟩ (CX10_fails l D cI cS cP ad A n σ23 σ41 r42 (2 : Int32) hC43) (cwV 1 hts gX10_copy_X10_fails rfl rfl rfl (by decide +kernel) ⟨Nat.le_of_ble_eq_true rfl, Nat.le_of_ble_eq_true rfl⟩) (z_preV hN hK hP hD (by decide) zm_0 rfl) rfl rfl hl.1 rfl (lv_room (Nat.le_of_ble_eq_true rfl)) dX10_copy_66 ⟨Nat.zero_le _, Nat.zero_le _⟩) hS (fun H locs hP hD hS => ?_)
            exact z_iret hx hb hr hlocks hN hK hP hD hS hF dX10_copy_69
        · have hF := zif_t b30 hF
          exact hB43 σ23 p1 p2 p3 p4 p5 _ _ _ hF hP hD hS (lv_sub hl [0, 1, 2, 3, 4, 5] rfl)
    · have hF := zif_t b26 hF
      refine lv_iconst (v := (-1 : Int32)) hx hb dX10_copy_19 (by decide) ?_
      exact z_iret hx hb hr hlocks hN hK hP hD hS hF dX10_copy_20
theorem kX10_begins_f220 : Cond.fieldLink RX10 220 "LeastAskedModel" "trace" "I" ∈ wsX10_begins := by decide +kernel
theorem iX10_begins_X10 : ∀ w ∈ u_ws RX10 TX10 32, w ∈ wsX10_begins := fun _ h => List.mem_cons_of_mem _ (List.mem_append_right _ h)
set_option maxHeartbeats 4000000 in
set_option maxRecDepth 100000 in
theorem CX10_begins (l : Launch) (D : va_G) (cI cS cP : ClassId) (ad : Nat → Nat) (A : Nat → Prop) (n : Nat) (σ σ' : zMem) (r0 : Int32) (p1 : Int32) (hF : FX10_begins n σ p1 = some (r0, σ')) : Met l yX10_begins wsX10_begins ({ frames := 0, cells := 0, slots := 0, locals := 0 } : Room) (va_Pc [.ref (ad 0), .int p1] (zB (zm cI ad) 20 ad D (zty cI cS cP) A σ)) (va_Qv (fun u => u = σ') (zB (zm cI ad) 20 ad D (zty cI cS cP) A) A) 0 0 A := by
  refine Met.ofW (cc := cX10_begins) (maxL := 2) (ret := none) (by decide) rfl ?_
  intro p e s m args below meth c s₁ B hml hv
  obtain ⟨rfl, hP, hK, hD, hN⟩ := hv
  have hx := B.exec
  have hb := B.bytes
  have hr := B.returns
  have hts := atoms_spec (ws := wsX10_begins) B.pre
  have hown : s.vm.findClass RX10 = some m.cls := findClass_of_methodNamed B.named
  have hlocks := B.notSynchronized
  have hS : va_S A s.heap s.heap [] := va_S.rf
  have hl := lv_entry ([.ref (ad 0), .int p1]) (n := 2) (Nat.le_of_ble_eq_true rfl)
  rw [lg_entry_eq]
  generalize (lg_sl ([.ref (ad 0), .int p1]) ++ List.replicate (2 - (lg_sl ([.ref (ad 0), .int p1])).length) Slot.unset).toArray = ls at hl ⊢
  have hl : lv_has ls 2 [(0, .ref (ad 0)), (1, .int p1)] := hl
  clear B
  unfold FX10_begins at hF
  refine lv_aload_n hx hb dX10_begins_0 rfl (lv_at hl 0 rfl) ?_
  refine lv_bipush (v := (31 : Int32)) hx hb dX10_begins_1 (by decide) ?_
  refine lv_aload_n hx hb dX10_begins_3 rfl (lv_at hl 0 rfl) ?_
  refine z_get (ci := 9) (C := RX10) (T := TX10) (N := 32) hx hb hts iX10_begins_X10 hown hK hP (by decide) zm_0 rfl 1 (by decide) kX10_begins_f220 rfl (v := .int (σ 0 1)) rfl dX10_begins_4 ?_
  refine lv_imul hx hb dX10_begins_7 ?_
  refine lv_iload_n hx hb dX10_begins_8 rfl (lv_at hl 1 rfl) ?_
  refine lv_iadd hx hb dX10_begins_9 ?_
  obtain ⟨σ1, eσ1, hF⟩ := zlet_inv hF
  refine z_put (ci := 9) (C := RX10) (T := TX10) (N := 32) hx hb hts iX10_begins_X10 tyX10 tyX10_ok nmX10 hown hK hP hD hS (by decide) zm_0 rfl 1 (by decide) kX10_begins_f220 rfl rfl rfl rfl (Nat.le_of_ble_eq_true rfl) zm_0 dX10_begins_10 (fun H locs hP hD hS => ?_)
  have hP : va_P D vwCl (zW (zm cI ad) 20 ad σ1) H := by rw [eσ1]; exact hP
  have hD : va_D A (zW (zm cI ad) 20 ad σ1) := by rw [eσ1]; exact hD
  exact z_vret hx hb hr hlocks hN hK hP hD hS hF dX10_begins_13
theorem kX10_tell_f31 : Cond.fieldLink RX10 31 "LeastAskedModel" "wit" "[I" ∈ wsX10_tell := by decide +kernel
theorem kX10_tell_f22 : Cond.fieldLink RX10 22 "LeastAskedModel" "kind" "[I" ∈ wsX10_tell := by decide +kernel
theorem iX10_tell_X10 : ∀ w ∈ u_ws RX10 TX10 32, w ∈ wsX10_tell := fun _ h => List.mem_cons_of_mem _ (List.mem_append_right _ h)
set_option maxHeartbeats 4000000 in
set_option maxRecDepth 100000 in
theorem CX10_tell (l : Launch) (D : va_G) (cI cS cP : ClassId) (ad : Nat → Nat) (A : Nat → Prop) (n : Nat) (σ σ' : zMem) (r0 : Int32) (p1 : Int32) (hF : FX10_tell n σ p1 = some (r0, σ')) : Met l yX10_tell wsX10_tell ({ frames := 1, cells := 0, slots := 0, locals := 21 } : Room) (va_Pc [.ref (ad 0), .int p1] (zB (zm cI ad) 20 ad D (zty cI cS cP) A σ)) (va_Qi (fun r u => r = r0 ∧ u = σ') (zB (zm cI ad) 20 ad D (zty cI cS cP) A) A) 0 0 A := by
  refine Met.ofW (cc := cX10_tell) (maxL := 3) (ret := (some .int)) (by decide) rfl ?_
  intro p e s m args below meth c s₁ B hml hv
  obtain ⟨rfl, hP, hK, hD, hN⟩ := hv
  have hx := B.exec
  have hb := B.bytes
  have hr := B.returns
  have hts := atoms_spec (ws := wsX10_tell) B.pre
  have hown : s.vm.findClass RX10 = some m.cls := findClass_of_methodNamed B.named
  have hlocks := B.notSynchronized
  have hS : va_S A s.heap s.heap [] := va_S.rf
  have hl := lv_entry ([.ref (ad 0), .int p1]) (n := 3) (Nat.le_of_ble_eq_true rfl)
  rw [lg_entry_eq]
  generalize (lg_sl ([.ref (ad 0), .int p1]) ++ List.replicate (3 - (lg_sl ([.ref (ad 0), .int p1])).length) Slot.unset).toArray = ls at hl ⊢
  have hl : lv_has ls 3 [(0, .ref (ad 0)), (1, .int p1)] := hl
  clear B
  unfold FX10_tell at hF
  refine lv_aload_n hx hb dX10_tell_0 rfl (lv_at hl 0 rfl) ?_
  refine lv_iload_n hx hb dX10_tell_1 rfl (lv_at hl 1 rfl) ?_
  obtain ⟨r2, σ1, hC3, hF⟩ := zbd_inv hF
  refine z_calli (va_runV (As := [.int p1]) (rest := []) ⟨hx, hb, hml, hown, hts⟩ (CX10_isPerson l D cI cS cP ad A n σ σ1 r2 p1 hC3) (cwV 1 hts gX10_tell_X10_isPerson rfl rfl rfl (by decide +kernel) ⟨Nat.le_of_ble_eq_true rfl, Nat.le_of_ble_eq_true rfl⟩) (z_preV hN hK hP hD (by decide) zm_0 rfl) rfl rfl hl.1 rfl (lv_room (Nat.le_of_ble_eq_true rfl)) dX10_tell_2 ⟨Nat.zero_le _, Nat.zero_le _⟩) hS (fun H locs hP hD hS => ?_)
  refine lv_if_ne (tgt := 10) hx hb dX10_tell_5 (by decide) (fun b4 => ?_) (fun b4 => ?_)
  · have hF := zif_f b4 hF
    refine lv_aload_n hx hb dX10_tell_10 rfl (lv_at hl 0 rfl) ?_
    refine z_get (ci := 9) (C := RX10) (T := TX10) (N := 32) hx hb hts iX10_tell_X10 hown hK hP (by decide) zm_0 rfl 12 (by decide) kX10_tell_f31 rfl (v := .ref (ad 8)) rfl dX10_tell_11 ?_
    refine lv_iload_n hx hb dX10_tell_14 rfl (lv_at hl 1 rfl) ?_
    obtain ⟨g5, hF⟩ := zgd_inv hF
    refine z_iald hx hb hK hP (by decide) (zm_a (n := 6) (by decide)) rfl g5 dX10_tell_15 ?_
    refine lv_istore_n (lv' := [(2, .int (σ1 8 (p1 : Int32).toNatClampNeg)), (0, .ref (ad 0)), (1, .int p1)]) hx hb dX10_tell_16 rfl hl (by decide) rfl (fun ls hl => ?_)
    refine lv_aload_n hx hb dX10_tell_17 rfl (lv_at hl 1 rfl) ?_
    refine z_get (ci := 9) (C := RX10) (T := TX10) (N := 32) hx hb hts iX10_tell_X10 hown hK hP (by decide) zm_0 rfl 9 (by decide) kX10_tell_f22 rfl (v := .ref (ad 5)) rfl dX10_tell_18 ?_
    refine lv_iload_n hx hb dX10_tell_21 rfl (lv_at hl 2 rfl) ?_
    obtain ⟨g6, hF⟩ := zgd_inv hF
    refine z_iald hx hb hK hP (by decide) (zm_a (n := 6) (by decide)) rfl g6 dX10_tell_22 ?_
    by_cases b7 : (σ1 5 (p1 : Int32).toNatClampNeg) = (1 : Int32)
    · have hF := zif_t b7 hF
      refine lv_lookup (off := 25) (tgt := 48) hx hb dX10_tell_23 (by decide) (by rw [b7]; try rfl) (by decide) ?_
      refine lv_aload_n hx hb dX10_tell_48 rfl (lv_at hl 1 rfl) ?_
      refine lv_iconst (v := (2 : Int32)) hx hb dX10_tell_49 (by decide) ?_
      obtain ⟨r9, σ8, hC10, hF⟩ := zbd_inv hF
      refine z_callv (va_runV (As := [.int (2 : Int32)]) (rest := []) ⟨hx, hb, hml, hown, hts⟩ (CX10_begins l D cI cS cP ad A n σ1 σ8 r9 (2 : Int32) hC10) (cwV 1 hts gX10_tell_X10_begins rfl rfl rfl (by decide +kernel) ⟨Nat.le_of_ble_eq_true rfl, Nat.le_of_ble_eq_true rfl⟩) (z_preV hN hK hP hD (by decide) zm_0 rfl) rfl rfl hl.1 rfl (lv_room (Nat.le_of_ble_eq_true rfl)) dX10_tell_50 ⟨Nat.zero_le _, Nat.zero_le _⟩) hS (fun H locs hP hD hS => ?_)
      refine lv_aload_n hx hb dX10_tell_53 rfl (lv_at hl 1 rfl) ?_
      refine lv_iconst (v := (1 : Int32)) hx hb dX10_tell_54 (by decide) ?_
      obtain ⟨r12, σ11, hC13, hF⟩ := zbd_inv hF
      refine z_callv (va_runV (As := [.int (1 : Int32)]) (rest := []) ⟨hx, hb, hml, hown, hts⟩ (CX10_begins l D cI cS cP ad A n σ8 σ11 r12 (1 : Int32) hC13) (cwV 1 hts gX10_tell_X10_begins rfl rfl rfl (by decide +kernel) ⟨Nat.le_of_ble_eq_true rfl, Nat.le_of_ble_eq_true rfl⟩) (z_preV hN hK hP hD (by decide) zm_0 rfl) rfl rfl hl.1 rfl (lv_room (Nat.le_of_ble_eq_true rfl)) dX10_tell_55 ⟨Nat.zero_le _, Nat.zero_le _⟩) hS (fun H locs hP hD hS => ?_)
      refine lv_iload_n hx hb dX10_tell_58 rfl (lv_at hl 0 rfl) ?_
      refine lv_bipush (v := (100 : Int32)) hx hb dX10_tell_59 (by decide) ?_
      refine lv_iadd hx hb dX10_tell_61 ?_
      exact z_iret hx hb hr hlocks hN hK hP hD hS hF dX10_tell_62
    · have hF := zif_f b7 hF
      by_cases b14 : (σ1 5 (p1 : Int32).toNatClampNeg) = (2 : Int32)
      · have hF := zif_t b14 hF
        refine lv_lookup (off := 40) (tgt := 63) hx hb dX10_tell_23 (by decide) (by rw [b14]; try rfl) (by decide) ?_
        refine lv_aload_n hx hb dX10_tell_63 rfl (lv_at hl 1 rfl) ?_
        refine lv_iconst (v := (3 : Int32)) hx hb dX10_tell_64 (by decide) ?_
        obtain ⟨r16, σ15, hC17, hF⟩ := zbd_inv hF
        refine z_callv (va_runV (As := [.int (3 : Int32)]) (rest := []) ⟨hx, hb, hml, hown, hts⟩ (CX10_begins l D cI cS cP ad A n σ1 σ15 r16 (3 : Int32) hC17) (cwV 1 hts gX10_tell_X10_begins rfl rfl rfl (by decide +kernel) ⟨Nat.le_of_ble_eq_true rfl, Nat.le_of_ble_eq_true rfl⟩) (z_preV hN hK hP hD (by decide) zm_0 rfl) rfl rfl hl.1 rfl (lv_room (Nat.le_of_ble_eq_true rfl)) dX10_tell_65 ⟨Nat.zero_le _, Nat.zero_le _⟩) hS (fun H locs hP hD hS => ?_)
        refine lv_aload_n hx hb dX10_tell_68 rfl (lv_at hl 1 rfl) ?_
        refine lv_iconst (v := (2 : Int32)) hx hb dX10_tell_69 (by decide) ?_
        obtain ⟨r19, σ18, hC20, hF⟩ := zbd_inv hF
        refine z_callv (va_runV (As := [.int (2 : Int32)]) (rest := []) ⟨hx, hb, hml, hown, hts⟩ (CX10_begins l D cI cS cP ad A n σ15 σ18 r19 (2 : Int32) hC20) (cwV 1 hts gX10_tell_X10_begins rfl rfl rfl (by decide +kernel) ⟨Nat.le_of_ble_eq_true rfl, Nat.le_of_ble_eq_true rfl⟩) (z_preV hN hK hP hD (by decide) zm_0 rfl) rfl rfl hl.1 rfl (lv_room (Nat.le_of_ble_eq_true rfl)) dX10_tell_70 ⟨Nat.zero_le _, Nat.zero_le _⟩) hS (fun H locs hP hD hS => ?_)
        refine lv_aload_n hx hb dX10_tell_73 rfl (lv_at hl 1 rfl) ?_
        refine lv_iconst (v := (1 : Int32)) hx hb dX10_tell_74 (by decide) ?_
        obtain ⟨r22, σ21, hC23, hF⟩ := zbd_inv hF
        refine z_callv (va_runV (As := [.int (1 : Int32)]) (rest := []) ⟨hx, hb, hml, hown, hts⟩ (CX10_begins l D cI cS cP ad A n σ18 σ21 r22 (1 : Int32) hC23) (cwV 1 hts gX10_tell_X10_begins rfl rfl rfl (by decide +kernel) ⟨Nat.le_of_ble_eq_true rfl, Nat.le_of_ble_eq_true rfl⟩) (z_preV hN hK hP hD (by decide) zm_0 rfl) rfl rfl hl.1 rfl (lv_room (Nat.le_of_ble_eq_true rfl)) dX10_tell_75 ⟨Nat.zero_le _, Nat.zero_le _⟩) hS (fun H locs hP hD hS => ?_)
        refine lv_aload_n hx hb dX10_tell_78 rfl (lv_at hl 1 rfl) ?_
        refine lv_iconst (v := (1 : Int32)) hx hb dX10_tell_79 (by decide) ?_
        obtain ⟨r25, σ24, hC26, hF⟩ := zbd_inv hF
        refine z_callv (va_runV (As := [.int (1 : Int32)]) (rest := []) ⟨hx, hb, hml, hown, hts⟩ (CX10_begins l D cI cS cP ad A n σ21 σ24 r25 (1 : Int32) hC26) (cwV 1 hts gX10_tell_X10_begins rfl rfl rfl (by decide +kernel) ⟨Nat.le_of_ble_eq_true rfl, Nat.le_of_ble_eq_true rfl⟩) (z_preV hN hK hP hD (by decide) zm_0 rfl) rfl rfl hl.1 rfl (lv_room (Nat.le_of_ble_eq_true rfl)) dX10_tell_80 ⟨Nat.zero_le _, Nat.zero_le _⟩) hS (fun H locs hP hD hS => ?_)
        refine lv_iconst (v := (2 : Int32)) hx hb dX10_tell_83 (by decide) ?_
        refine lv_iload_n hx hb dX10_tell_84 rfl (lv_at hl 0 rfl) ?_
        refine lv_imul hx hb dX10_tell_85 ?_
        refine lv_bipush (v := (100 : Int32)) hx hb dX10_tell_86 (by decide) ?_
        refine lv_iadd hx hb dX10_tell_88 ?_
        exact z_iret hx hb hr hlocks hN hK hP hD hS hF dX10_tell_89
      · have hF := zif_f b14 hF
        refine lv_lookup (off := 67) (tgt := 90) hx hb dX10_tell_23 (by decide) (by show Op.lookupswitch.offset [(1, 25), (2, 40)] (67) _ = _; rw [lv_osw b7 (by decide), lv_osw b14 (by decide)]; try rfl) (by decide) ?_
        refine lv_aload_n hx hb dX10_tell_90 rfl (lv_at hl 1 rfl) ?_
        refine lv_iconst (v := (1 : Int32)) hx hb dX10_tell_91 (by decide) ?_
        obtain ⟨r28, σ27, hC29, hF⟩ := zbd_inv hF
        refine z_callv (va_runV (As := [.int (1 : Int32)]) (rest := []) ⟨hx, hb, hml, hown, hts⟩ (CX10_begins l D cI cS cP ad A n σ1 σ27 r28 (1 : Int32) hC29) (cwV 1 hts gX10_tell_X10_begins rfl rfl rfl (by decide +kernel) ⟨Nat.le_of_ble_eq_true rfl, Nat.le_of_ble_eq_true rfl⟩) (z_preV hN hK hP hD (by decide) zm_0 rfl) rfl rfl hl.1 rfl (lv_room (Nat.le_of_ble_eq_true rfl)) dX10_tell_92 ⟨Nat.zero_le _, Nat.zero_le _⟩) hS (fun H locs hP hD hS => ?_)
        refine lv_iload_n hx hb dX10_tell_95 rfl (lv_at hl 0 rfl) ?_
        exact z_iret hx hb hr hlocks hN hK hP hD hS hF dX10_tell_96
  · have hF := zif_t b4 hF
    refine lv_iconst (v := (-1 : Int32)) hx hb dX10_tell_8 (by decide) ?_
    exact z_iret hx hb hr hlocks hN hK hP hD hS hF dX10_tell_9
theorem kX10_greet_f22 : Cond.fieldLink RX10 22 "LeastAskedModel" "kind" "[I" ∈ wsX10_greet := by decide +kernel
theorem kX10_greet_f25 : Cond.fieldLink RX10 25 "LeastAskedModel" "asked" "[I" ∈ wsX10_greet := by decide +kernel
theorem iX10_greet_X10 : ∀ w ∈ u_ws RX10 TX10 32, w ∈ wsX10_greet := fun _ h => List.mem_cons_of_mem _ (List.mem_append_right _ h)
set_option maxHeartbeats 4000000 in
set_option maxRecDepth 100000 in
theorem CX10_greet (l : Launch) (D : va_G) (cI cS cP : ClassId) (ad : Nat → Nat) (A : Nat → Prop) (n : Nat) (σ σ' : zMem) (r0 : Int32) (p1 : Int32) (hF : FX10_greet n σ p1 = some (r0, σ')) : Met l yX10_greet wsX10_greet ({ frames := 1, cells := 0, slots := 0, locals := 21 } : Room) (va_Pc [.ref (ad 0), .int p1] (zB (zm cI ad) 20 ad D (zty cI cS cP) A σ)) (va_Qi (fun r u => r = r0 ∧ u = σ') (zB (zm cI ad) 20 ad D (zty cI cS cP) A) A) 0 0 A := by
  refine Met.ofW (cc := cX10_greet) (maxL := 2) (ret := (some .int)) (by decide) rfl ?_
  intro p e s m args below meth c s₁ B hml hv
  obtain ⟨rfl, hP, hK, hD, hN⟩ := hv
  have hx := B.exec
  have hb := B.bytes
  have hr := B.returns
  have hts := atoms_spec (ws := wsX10_greet) B.pre
  have hown : s.vm.findClass RX10 = some m.cls := findClass_of_methodNamed B.named
  have hlocks := B.notSynchronized
  have hS : va_S A s.heap s.heap [] := va_S.rf
  have hl := lv_entry ([.ref (ad 0), .int p1]) (n := 2) (Nat.le_of_ble_eq_true rfl)
  rw [lg_entry_eq]
  generalize (lg_sl ([.ref (ad 0), .int p1]) ++ List.replicate (2 - (lg_sl ([.ref (ad 0), .int p1])).length) Slot.unset).toArray = ls at hl ⊢
  have hl : lv_has ls 2 [(0, .ref (ad 0)), (1, .int p1)] := hl
  clear B
  have hB26 : ∀ (σ : zMem) (l1 : Int32) (s1 : Int32), ∀ (H : Heap) (locs : List Loc) (ls : Array Slot), BX10_greet_26 n σ l1 s1 = some (r0, σ') → va_P D vwCl (zW (zm cI ad) 20 ad σ) H → va_D A (zW (zm cI ad) 20 ad σ) → va_S A s.heap H locs → lv_has ls 2 [(0, .ref (ad 0)), (1, .int l1)] → W p l e (headSpec wsX10_greet ({ frames := 1, cells := 0, slots := 0, locals := 21 } : Room)).room s m ([.ref (ad 0), .int p1] : List Value).toArray below meth c H locs 0 0 (MQ below (va_Qi (fun r u => r = r0 ∧ u = σ') (zB (zm cI ad) 20 ad D (zty cI cS cP) A) A) ([.ref (ad 0), .int p1] : List Value).toArray s 0 0 A) (F0 m 26 ls [.int s1, .ref (ad 0)]) := by
    intro σ l1 s1 H locs ls hF hP hD hS hl
    unfold BX10_greet_26 at hF
    obtain ⟨r2, σ1, hC3, hF⟩ := zbd_inv hF
    refine z_callv (va_runV (As := [.int s1]) (rest := []) ⟨hx, hb, hml, hown, hts⟩ (CX10_begins l D cI cS cP ad A n σ σ1 r2 s1 hC3) (cwV 1 hts gX10_greet_X10_begins rfl rfl rfl (by decide +kernel) ⟨Nat.le_of_ble_eq_true rfl, Nat.le_of_ble_eq_true rfl⟩) (z_preV hN hK hP hD (by decide) zm_0 rfl) rfl rfl hl.1 rfl (lv_room (Nat.le_of_ble_eq_true rfl)) dX10_greet_26 ⟨Nat.zero_le _, Nat.zero_le _⟩) hS (fun H locs hP hD hS => ?_)
    refine lv_aload_n hx hb dX10_greet_29 rfl (lv_at hl 0 rfl) ?_
    refine z_get (ci := 9) (C := RX10) (T := TX10) (N := 32) hx hb hts iX10_greet_X10 hown hK hP (by decide) zm_0 rfl 9 (by decide) kX10_greet_f22 rfl (v := .ref (ad 5)) rfl dX10_greet_30 ?_
    refine lv_iload_n hx hb dX10_greet_33 rfl (lv_at hl 1 rfl) ?_
    obtain ⟨g4, hF⟩ := zgd_inv hF
    refine z_iald hx hb hK hP (by decide) (zm_a (n := 6) (by decide)) rfl g4 dX10_greet_34 ?_
    refine lv_iconst (v := (2 : Int32)) hx hb dX10_greet_35 (by decide) ?_
    refine lv_icmp_ne (tgt := 44) hx hb dX10_greet_36 (by decide) (fun b5 => ?_) (fun b5 => ?_)
    · have hF := zif_f b5 hF
      refine lv_aload_n hx hb dX10_greet_44 rfl (lv_at hl 0 rfl) ?_
      refine z_get (ci := 9) (C := RX10) (T := TX10) (N := 32) hx hb hts iX10_greet_X10 hown hK hP (by decide) zm_0 rfl 10 (by decide) kX10_greet_f25 rfl (v := .ref (ad 6)) rfl dX10_greet_45 ?_
      refine lv_iload_n hx hb dX10_greet_48 rfl (lv_at hl 1 rfl) ?_
      obtain ⟨g6, hF⟩ := zgd_inv hF
      refine z_iald hx hb hK hP (by decide) (zm_a (n := 6) (by decide)) rfl g6 dX10_greet_49 ?_
      exact z_iret hx hb hr hlocks hN hK hP hD hS hF dX10_greet_50
    · have hF := zif_t b5 hF
      refine lv_bipush (v := (40 : Int32)) hx hb dX10_greet_39 (by decide) ?_
      refine lv_goto (tgt := 50) hx hb dX10_greet_41 (by decide) ?_
      exact z_iret hx hb hr hlocks hN hK hP hD hS hF dX10_greet_50
  unfold FX10_greet at hF
  refine lv_aload_n hx hb dX10_greet_0 rfl (lv_at hl 0 rfl) ?_
  refine lv_iload_n hx hb dX10_greet_1 rfl (lv_at hl 1 rfl) ?_
  obtain ⟨r8, σ7, hC9, hF⟩ := zbd_inv hF
  refine z_calli (va_runV (As := [.int p1]) (rest := []) ⟨hx, hb, hml, hown, hts⟩ (CX10_isPerson l D cI cS cP ad A n σ σ7 r8 p1 hC9) (cwV 1 hts gX10_greet_X10_isPerson rfl rfl rfl (by decide +kernel) ⟨Nat.le_of_ble_eq_true rfl, Nat.le_of_ble_eq_true rfl⟩) (z_preV hN hK hP hD (by decide) zm_0 rfl) rfl rfl hl.1 rfl (lv_room (Nat.le_of_ble_eq_true rfl)) dX10_greet_2 ⟨Nat.zero_le _, Nat.zero_le _⟩) hS (fun H locs hP hD hS => ?_)
  refine lv_if_ne (tgt := 10) hx hb dX10_greet_5 (by decide) (fun b10 => ?_) (fun b10 => ?_)
  · have hF := zif_f b10 hF
    refine lv_aload_n hx hb dX10_greet_10 rfl (lv_at hl 0 rfl) ?_
    refine lv_aload_n hx hb dX10_greet_11 rfl (lv_at hl 0 rfl) ?_
    refine z_get (ci := 9) (C := RX10) (T := TX10) (N := 32) hx hb hts iX10_greet_X10 hown hK hP (by decide) zm_0 rfl 9 (by decide) kX10_greet_f22 rfl (v := .ref (ad 5)) rfl dX10_greet_12 ?_
    refine lv_iload_n hx hb dX10_greet_15 rfl (lv_at hl 1 rfl) ?_
    obtain ⟨g11, hF⟩ := zgd_inv hF
    refine z_iald hx hb hK hP (by decide) (zm_a (n := 6) (by decide)) rfl g11 dX10_greet_16 ?_
    refine lv_iconst (v := (2 : Int32)) hx hb dX10_greet_17 (by decide) ?_
    refine lv_icmp_ne (tgt := 25) hx hb dX10_greet_18 (by decide) (fun b12 => ?_) (fun b12 => ?_)
    · have hF := zif_f b12 hF
      refine lv_iconst (v := (4 : Int32)) hx hb dX10_greet_25 (by decide) ?_
      exact hB26 σ7 p1 (4 : Int32) _ _ _ hF hP hD hS (lv_sub hl [0, 1] rfl)
    · have hF := zif_t b12 hF
      refine lv_iconst (v := (5 : Int32)) hx hb dX10_greet_21 (by decide) ?_
      refine lv_goto (tgt := 26) hx hb dX10_greet_22 (by decide) ?_
      exact hB26 σ7 p1 (5 : Int32) _ _ _ hF hP hD hS (lv_sub hl [0, 1] rfl)
  · have hF := zif_t b10 hF
    refine lv_iconst (v := (-1 : Int32)) hx hb dX10_greet_8 (by decide) ?_
    exact z_iret hx hb hr hlocks hN hK hP hD hS hF dX10_greet_9
theorem kX10_as_f67 : Cond.fieldLink RX10 67 "LeastAskedModel" "fault" "I" ∈ wsX10_as := by decide +kernel
theorem kX10_as_f22 : Cond.fieldLink RX10 22 "LeastAskedModel" "kind" "[I" ∈ wsX10_as := by decide +kernel
theorem iX10_as_X10 : ∀ w ∈ u_ws RX10 TX10 32, w ∈ wsX10_as := fun _ h => List.mem_cons_of_mem _ (List.mem_append_right _ h)
set_option maxHeartbeats 4000000 in
set_option maxRecDepth 100000 in
theorem CX10_as (l : Launch) (D : va_G) (cI cS cP : ClassId) (ad : Nat → Nat) (A : Nat → Prop) (n : Nat) (σ σ' : zMem) (r0 : Int32) (p1 : Int32) (p2 : Int32) (hF : FX10_as n σ p1 p2 = some (r0, σ')) : Met l yX10_as wsX10_as ({ frames := 1, cells := 0, slots := 0, locals := 22 } : Room) (va_Pc [.ref (ad 0), .int p1, .int p2] (zB (zm cI ad) 20 ad D (zty cI cS cP) A σ)) (va_Qi (fun r u => r = r0 ∧ u = σ') (zB (zm cI ad) 20 ad D (zty cI cS cP) A) A) 0 0 A := by
  refine Met.ofW (cc := cX10_as) (maxL := 3) (ret := (some .int)) (by decide) rfl ?_
  intro p e s m args below meth c s₁ B hml hv
  obtain ⟨rfl, hP, hK, hD, hN⟩ := hv
  have hx := B.exec
  have hb := B.bytes
  have hr := B.returns
  have hts := atoms_spec (ws := wsX10_as) B.pre
  have hown : s.vm.findClass RX10 = some m.cls := findClass_of_methodNamed B.named
  have hlocks := B.notSynchronized
  have hS : va_S A s.heap s.heap [] := va_S.rf
  have hl := lv_entry ([.ref (ad 0), .int p1, .int p2]) (n := 3) (Nat.le_of_ble_eq_true rfl)
  rw [lg_entry_eq]
  generalize (lg_sl ([.ref (ad 0), .int p1, .int p2]) ++ List.replicate (3 - (lg_sl ([.ref (ad 0), .int p1, .int p2])).length) Slot.unset).toArray = ls at hl ⊢
  have hl : lv_has ls 3 [(0, .ref (ad 0)), (1, .int p1), (2, .int p2)] := hl
  clear B
  unfold FX10_as at hF
  refine lv_aload_n hx hb dX10_as_0 rfl (lv_at hl 0 rfl) ?_
  refine lv_iconst (v := (0 : Int32)) hx hb dX10_as_1 (by decide) ?_
  obtain ⟨σ1, eσ1, hF⟩ := zlet_inv hF
  refine z_put (ci := 9) (C := RX10) (T := TX10) (N := 32) hx hb hts iX10_as_X10 tyX10 tyX10_ok nmX10 hown hK hP hD hS (by decide) zm_0 rfl 0 (by decide) kX10_as_f67 rfl rfl rfl rfl (Nat.le_of_ble_eq_true rfl) zm_0 dX10_as_2 (fun H locs hP hD hS => ?_)
  have hP : va_P D vwCl (zW (zm cI ad) 20 ad σ1) H := by rw [eσ1]; exact hP
  have hD : va_D A (zW (zm cI ad) 20 ad σ1) := by rw [eσ1]; exact hD
  refine lv_aload_n hx hb dX10_as_5 rfl (lv_at hl 0 rfl) ?_
  refine lv_iload_n hx hb dX10_as_6 rfl (lv_at hl 1 rfl) ?_
  obtain ⟨r3, σ2, hC4, hF⟩ := zbd_inv hF
  refine z_calli (va_runV (As := [.int p1]) (rest := []) ⟨hx, hb, hml, hown, hts⟩ (CX10_isPerson l D cI cS cP ad A n σ1 σ2 r3 p1 hC4) (cwV 1 hts gX10_as_X10_isPerson rfl rfl rfl (by decide +kernel) ⟨Nat.le_of_ble_eq_true rfl, Nat.le_of_ble_eq_true rfl⟩) (z_preV hN hK hP hD (by decide) zm_0 rfl) rfl rfl hl.1 rfl (lv_room (Nat.le_of_ble_eq_true rfl)) dX10_as_7 ⟨Nat.zero_le _, Nat.zero_le _⟩) hS (fun H locs hP hD hS => ?_)
  refine lv_if_ne (tgt := 15) hx hb dX10_as_10 (by decide) (fun b5 => ?_) (fun b5 => ?_)
  · have hF := zif_f b5 hF
    refine lv_iload_n hx hb dX10_as_15 rfl (lv_at hl 2 rfl) ?_
    refine lv_iconst (v := (0 : Int32)) hx hb dX10_as_16 (by decide) ?_
    refine lv_iconst (v := (2 : Int32)) hx hb dX10_as_17 (by decide) ?_
    obtain ⟨r7, σ6, hC8, hF⟩ := zbd_inv hF
    refine z_calli (va_runS (As := [.int p2, .int (0 : Int32), .int (2 : Int32)]) (rest := []) ⟨hx, hb, hml, hown, hts⟩ (CX10_within l D cI cS cP ad A n σ2 σ6 r7 p2 (0 : Int32) (2 : Int32) hC8) (va_cwS 3 hts gX10_as_X10_within rfl rfl rfl (by decide +kernel) ⟨Nat.le_of_ble_eq_true rfl, Nat.le_of_ble_eq_true rfl⟩) (z_preS hN hK hP hD) rfl rfl hl.1 rfl (lv_room (Nat.le_of_ble_eq_true rfl)) dX10_as_18 ⟨Nat.zero_le _, Nat.zero_le _⟩) hS (fun H locs hP hD hS => ?_)
    refine lv_if_ne (tgt := 27) hx hb dX10_as_21 (by decide) (fun b9 => ?_) (fun b9 => ?_)
    · have hF := zif_f b9 hF
      refine lv_aload_n hx hb dX10_as_27 rfl (lv_at hl 0 rfl) ?_
      refine z_get (ci := 9) (C := RX10) (T := TX10) (N := 32) hx hb hts iX10_as_X10 hown hK hP (by decide) zm_0 rfl 9 (by decide) kX10_as_f22 rfl (v := .ref (ad 5)) rfl dX10_as_28 ?_
      refine lv_iload_n hx hb dX10_as_31 rfl (lv_at hl 1 rfl) ?_
      obtain ⟨g10, hF⟩ := zgd_inv hF
      refine z_iald hx hb hK hP (by decide) (zm_a (n := 6) (by decide)) rfl g10 dX10_as_32 ?_
      refine lv_iload_n hx hb dX10_as_33 rfl (lv_at hl 2 rfl) ?_
      refine lv_icmp_lt (tgt := 41) hx hb dX10_as_34 (by decide) (fun b11 => ?_) (fun b11 => ?_)
      · have hF := zif_t b11 hF
        refine lv_aload_n hx hb dX10_as_41 rfl (lv_at hl 0 rfl) ?_
        refine lv_iconst (v := (2 : Int32)) hx hb dX10_as_42 (by decide) ?_
        obtain ⟨r13, σ12, hC14, hF⟩ := zbd_inv hF
        refine z_calli (va_runV (As := [.int (2 : Int32)]) (rest := []) ⟨hx, hb, hml, hown, hts⟩ (CX10_fails l D cI cS cP ad A n σ6 σ12 r13 (2 : Int32) hC14) (cwV 1 hts gX10_as_X10_fails rfl rfl rfl (by decide +kernel) ⟨Nat.le_of_ble_eq_true rfl, Nat.le_of_ble_eq_true rfl⟩) (z_preV hN hK hP hD (by decide) zm_0 rfl) rfl rfl hl.1 rfl (lv_room (Nat.le_of_ble_eq_true rfl)) dX10_as_43 ⟨Nat.zero_le _, Nat.zero_le _⟩) hS (fun H locs hP hD hS => ?_)
        exact z_iret hx hb hr hlocks hN hK hP hD hS hF dX10_as_46
      · have hF := zif_f b11 hF
        refine lv_iconst (v := (1 : Int32)) hx hb dX10_as_37 (by decide) ?_
        refine lv_goto (tgt := 46) hx hb dX10_as_38 (by decide) ?_
        exact z_iret hx hb hr hlocks hN hK hP hD hS hF dX10_as_46
    · have hF := zif_t b9 hF
      refine lv_bipush (v := (-2 : Int32)) hx hb dX10_as_24 (by decide) ?_
      exact z_iret hx hb hr hlocks hN hK hP hD hS hF dX10_as_26
  · have hF := zif_t b5 hF
    refine lv_iconst (v := (-1 : Int32)) hx hb dX10_as_13 (by decide) ?_
    exact z_iret hx hb hr hlocks hN hK hP hD hS hF dX10_as_14
theorem kX10_trace_f220 : Cond.fieldLink RX10 220 "LeastAskedModel" "trace" "I" ∈ wsX10_trace := by decide +kernel
theorem iX10_trace_X10 : ∀ w ∈ u_ws RX10 TX10 32, w ∈ wsX10_trace := fun _ h => List.mem_cons_of_mem _ (List.mem_append_right _ h)
set_option maxHeartbeats 4000000 in
set_option maxRecDepth 100000 in
theorem CX10_trace (l : Launch) (D : va_G) (cI cS cP : ClassId) (ad : Nat → Nat) (A : Nat → Prop) (n : Nat) (σ σ' : zMem) (r0 : Int32) (hF : FX10_trace n σ = some (r0, σ')) : Met l yX10_trace wsX10_trace ({ frames := 0, cells := 0, slots := 0, locals := 0 } : Room) (va_Pc [.ref (ad 0)] (zB (zm cI ad) 20 ad D (zty cI cS cP) A σ)) (va_Qi (fun r u => r = r0 ∧ u = σ') (zB (zm cI ad) 20 ad D (zty cI cS cP) A) A) 0 0 A := by
  refine Met.ofW (cc := cX10_trace) (maxL := 1) (ret := (some .int)) (by decide) rfl ?_
  intro p e s m args below meth c s₁ B hml hv
  obtain ⟨rfl, hP, hK, hD, hN⟩ := hv
  have hx := B.exec
  have hb := B.bytes
  have hr := B.returns
  have hts := atoms_spec (ws := wsX10_trace) B.pre
  have hown : s.vm.findClass RX10 = some m.cls := findClass_of_methodNamed B.named
  have hlocks := B.notSynchronized
  have hS : va_S A s.heap s.heap [] := va_S.rf
  have hl := lv_entry ([.ref (ad 0)]) (n := 1) (Nat.le_of_ble_eq_true rfl)
  rw [lg_entry_eq]
  generalize (lg_sl ([.ref (ad 0)]) ++ List.replicate (1 - (lg_sl ([.ref (ad 0)])).length) Slot.unset).toArray = ls at hl ⊢
  have hl : lv_has ls 1 [(0, .ref (ad 0))] := hl
  clear B
  unfold FX10_trace at hF
  refine lv_aload_n hx hb dX10_trace_0 rfl (lv_at hl 0 rfl) ?_
  refine z_get (ci := 9) (C := RX10) (T := TX10) (N := 32) hx hb hts iX10_trace_X10 hown hK hP (by decide) zm_0 rfl 1 (by decide) kX10_trace_f220 rfl (v := .int (σ 0 1)) rfl dX10_trace_1 ?_
  exact z_iret hx hb hr hlocks hN hK hP hD hS hF dX10_trace_4
