/-! ===== contracts: X10_best, X10_reading, X10_back, X10_areSo, X10_knowings, X10_wits, X10_kinds, X10_worths, X10_inLeastTerms, X10_odds ===== -/
theorem kX10_best_f55 : Cond.fieldLink RX10 55 "LeastAskedModel" "bestGiven" "[I" ∈ wsX10_best := by decide +kernel
theorem kX10_best_f77 : Cond.fieldLink RX10 77 "LeastAskedModel" "people" "I" ∈ wsX10_best := by decide +kernel
theorem kX10_best_f197 : Cond.fieldLink RX10 197 "LeastAskedModel" "bestSum" "I" ∈ wsX10_best := by decide +kernel
theorem kX10_best_f194 : Cond.fieldLink RX10 194 "LeastAskedModel" "bestMany" "I" ∈ wsX10_best := by decide +kernel
theorem iX10_best_X10 : ∀ w ∈ u_ws RX10 TX10 32, w ∈ wsX10_best := fun _ h => List.mem_cons_of_mem _ (List.mem_append_right _ h)
set_option maxHeartbeats 4000000 in
set_option maxRecDepth 100000 in
theorem CX10_best (l : Launch) (D : va_G) (cI cS cP : ClassId) (ad : Nat → Nat) (A : Nat → Prop) (n : Nat) (σ σ' : zMem) (r0 : Int32) (p1 : Int32) (hF : FX10_best n σ p1 = some (r0, σ')) : Met l yX10_best wsX10_best ({ frames := 3, cells := 0, slots := 0, locals := 66 } : Room) (va_Pc [.ref (ad 0), .int p1] (zB (zm cI ad) 20 ad D (zty cI cS cP) A σ)) (va_Qi (fun r u => r = r0 ∧ u = σ') (zB (zm cI ad) 20 ad D (zty cI cS cP) A) A) 0 0 A := by
  refine Met.ofW (cc := cX10_best) (maxL := 4) (ret := (some .int)) (by decide) rfl ?_
  intro p e s m args below meth c s₁ B hml hv
  obtain ⟨rfl, hP, hK, hD, hN⟩ := hv
  have hx := B.exec
  have hb := B.bytes
  have hr := B.returns
  have hts := atoms_spec (ws := wsX10_best) B.pre
  have hown : s.vm.findClass RX10 = some m.cls := findClass_of_methodNamed B.named
  have hlocks := B.notSynchronized
  have hS : va_S A s.heap s.heap [] := va_S.rf
  have hl := lv_entry ([.ref (ad 0), .int p1]) (n := 4) (Nat.le_of_ble_eq_true rfl)
  rw [lg_entry_eq]
  generalize (lg_sl ([.ref (ad 0), .int p1]) ++ List.replicate (4 - (lg_sl ([.ref (ad 0), .int p1])).length) Slot.unset).toArray = ls at hl ⊢
  have hl : lv_has ls 4 [(0, .ref (ad 0)), (1, .int p1)] := hl
  clear B
  have hB56 : ∀ (f56 : Nat) (σ : zMem) (l1 : Int32) (l2 : Int32) (l3 : Int32), ∀ (H : Heap) (locs : List Loc) (ls : Array Slot), zlp (LX10_best_56 n) f56 (σ, l1, l2, l3) = some (r0, σ') → va_P D vwCl (zW (zm cI ad) 20 ad σ) H → va_D A (zW (zm cI ad) 20 ad σ) → va_S A s.heap H locs → lv_has ls 4 [(0, .ref (ad 0)), (1, .int l1), (2, .int l2), (3, .int l3)] → W p l e (headSpec wsX10_best ({ frames := 3, cells := 0, slots := 0, locals := 66 } : Room)).room s m ([.ref (ad 0), .int p1] : List Value).toArray below meth c H locs 0 0 (MQ below (va_Qi (fun r u => r = r0 ∧ u = σ') (zB (zm cI ad) 20 ad D (zty cI cS cP) A) A) ([.ref (ad 0), .int p1] : List Value).toArray s 0 0 A) (F0 m 56 ls []) := by
    intro f56
    induction f56 with
    | zero => intro σ l1 l2 l3 H locs ls hF hP hD hS hl; exact (zlp_0 hF).elim
    | succ f56 ih56 =>
      intro σ l1 l2 l3 H locs ls hF hP hD hS hl
      have hF : LBX10_best_56 n   (zlp (LX10_best_56 n) f56) σ l1 l2 l3 = some (r0, σ') := hF
      unfold LBX10_best_56 at hF
      refine lv_iload_n hx hb dX10_best_56 rfl (lv_at hl 3 rfl) ?_
      refine lv_iload_n hx hb dX10_best_57 rfl (lv_at hl 2 rfl) ?_
      refine lv_icmp_ge (tgt := 79) hx hb dX10_best_58 (by decide) (fun b1 => ?_) (fun b1 => ?_)
      · have hF := zif_t b1 hF
        refine lv_iload_n hx hb dX10_best_79 rfl (lv_at hl 1 rfl) ?_
        refine lv_iconst (v := (-1 : Int32)) hx hb dX10_best_80 (by decide) ?_
        refine lv_icmp_ne (tgt := 89) hx hb dX10_best_81 (by decide) (fun b2 => ?_) (fun b2 => ?_)
        · have hF := zif_f b2 hF
          refine lv_aload_n hx hb dX10_best_89 rfl (lv_at hl 0 rfl) ?_
          refine z_get (ci := 9) (C := RX10) (T := TX10) (N := 32) hx hb hts iX10_best_X10 hown hK hP (by decide) zm_0 rfl 25 (by decide) kX10_best_f55 rfl (v := .ref (ad 16)) rfl dX10_best_90 ?_
          refine lv_iload_n hx hb dX10_best_93 rfl (lv_at hl 1 rfl) ?_
          obtain ⟨g3, hF⟩ := zgd_inv hF
          refine z_iald hx hb hK hP (by decide) (zm_a (n := 3) (by decide)) rfl g3 dX10_best_94 ?_
          refine lv_aload_n hx hb dX10_best_95 rfl (lv_at hl 0 rfl) ?_
          refine z_get (ci := 9) (C := RX10) (T := TX10) (N := 32) hx hb hts iX10_best_X10 hown hK hP (by decide) zm_0 rfl 5 (by decide) kX10_best_f77 rfl (v := .int (σ 0 5)) rfl dX10_best_96 ?_
          refine lv_icmp_ge (tgt := 111) hx hb dX10_best_99 (by decide) (fun b4 => ?_) (fun b4 => ?_)
          · have hF := zif_t b4 hF
            refine lv_bipush (v := (-9 : Int32)) hx hb dX10_best_111 (by decide) ?_
            exact z_iret hx hb hr hlocks hN hK hP hD hS hF dX10_best_113
          · have hF := zif_f b4 hF
            refine lv_aload_n hx hb dX10_best_102 rfl (lv_at hl 0 rfl) ?_
            refine z_get (ci := 9) (C := RX10) (T := TX10) (N := 32) hx hb hts iX10_best_X10 hown hK hP (by decide) zm_0 rfl 25 (by decide) kX10_best_f55 rfl (v := .ref (ad 16)) rfl dX10_best_103 ?_
            refine lv_iload_n hx hb dX10_best_106 rfl (lv_at hl 1 rfl) ?_
            obtain ⟨g5, hF⟩ := zgd_inv hF
            refine z_iald hx hb hK hP (by decide) (zm_a (n := 3) (by decide)) rfl g5 dX10_best_107 ?_
            refine lv_goto (tgt := 113) hx hb dX10_best_108 (by decide) ?_
            exact z_iret hx hb hr hlocks hN hK hP hD hS hF dX10_best_113
        · have hF := zif_t b2 hF
          refine lv_aload_n hx hb dX10_best_84 rfl (lv_at hl 0 rfl) ?_
          refine z_get (ci := 9) (C := RX10) (T := TX10) (N := 32) hx hb hts iX10_best_X10 hown hK hP (by decide) zm_0 rfl 27 (by decide) kX10_best_f197 rfl (v := .int (σ 0 27)) rfl dX10_best_85 ?_
          exact z_iret hx hb hr hlocks hN hK hP hD hS hF dX10_best_88
      · have hF := zif_f b1 hF
        refine lv_aload_n hx hb dX10_best_61 rfl (lv_at hl 0 rfl) ?_
        refine lv_iload_n hx hb dX10_best_62 rfl (lv_at hl 3 rfl) ?_
        obtain ⟨r7, σ6, hC8, hF⟩ := zbd_inv hF
        refine z_calli (va_runV (As := [.int l3]) (rest := []) ⟨hx, hb, hml, hown, hts⟩ (CX10_canGive l D cI cS cP ad A n σ σ6 r7 l3 hC8) (cwV 1 hts gX10_best_X10_canGive rfl rfl rfl (by decide +kernel) ⟨Nat.le_of_ble_eq_true rfl, Nat.le_of_ble_eq_true rfl⟩) (z_preV hN hK hP hD (by decide) zm_0 rfl) rfl rfl hl.1 rfl (lv_room (Nat.le_of_ble_eq_true rfl)) dX10_best_63 ⟨Nat.zero_le _, Nat.zero_le _⟩) hS (fun H locs hP hD hS => ?_)
        refine lv_if_eq (tgt := 73) hx hb dX10_best_66 (by decide) (fun b9 => ?_) (fun b9 => ?_)
        · have hF := zif_t b9 hF
          refine lv_iinc (v := (l3 + (1 : Int32))) (lv' := [(3, .int (l3 + (1 : Int32))), (0, .ref (ad 0)), (1, .int l1), (2, .int l2)]) hx hb dX10_best_73 hl (k := 3) rfl rfl (by decide) rfl (fun ls hl => ?_)
          refine lv_goto (tgt := 56) hx hb dX10_best_76 (by decide) ?_
          exact ih56 σ6 l1 l2 (l3 + (1 : Int32)) _ _ _ hF hP hD hS (lv_sub hl [1, 2, 3, 0] rfl)
        · have hF := zif_f b9 hF
          refine lv_aload_n hx hb dX10_best_69 rfl (lv_at hl 0 rfl) ?_
          obtain ⟨r11, σ10, hC12, hF⟩ := zbd_inv hF
          refine z_callv (va_runV (As := []) (rest := []) ⟨hx, hb, hml, hown, hts⟩ (CX10_tryGiven l D cI cS cP ad A n σ6 σ10 r11 hC12) (cwV 0 hts gX10_best_X10_tryGiven rfl rfl rfl (by decide +kernel) ⟨Nat.le_of_ble_eq_true rfl, Nat.le_of_ble_eq_true rfl⟩) (z_preV hN hK hP hD (by decide) zm_0 rfl) rfl rfl hl.1 rfl (lv_room (Nat.le_of_ble_eq_true rfl)) dX10_best_70 ⟨Nat.zero_le _, Nat.zero_le _⟩) hS (fun H locs hP hD hS => ?_)
          refine lv_iinc (v := (l3 + (1 : Int32))) (lv' := [(3, .int (l3 + (1 : Int32))), (0, .ref (ad 0)), (1, .int l1), (2, .int l2)]) hx hb dX10_best_73 hl (k := 3) rfl rfl (by decide) rfl (fun ls hl => ?_)
          refine lv_goto (tgt := 56) hx hb dX10_best_76 (by decide) ?_
          exact ih56 σ10 l1 l2 (l3 + (1 : Int32)) _ _ _ hF hP hD hS (lv_sub hl [1, 2, 3, 0] rfl)
  unfold FX10_best at hF
  refine lv_iload_n hx hb dX10_best_0 rfl (lv_at hl 1 rfl) ?_
  refine lv_iconst (v := (-1 : Int32)) hx hb dX10_best_1 (by decide) ?_
  refine lv_iconst (v := (2 : Int32)) hx hb dX10_best_2 (by decide) ?_
  obtain ⟨r14, σ13, hC15, hF⟩ := zbd_inv hF
  refine z_calli (va_runS (As := [.int p1, .int (-1 : Int32), .int (2 : Int32)]) (rest := []) ⟨hx, hb, hml, hown, hts⟩ (CX10_within l D cI cS cP ad A n σ σ13 r14 p1 (-1 : Int32) (2 : Int32) hC15) (va_cwS 3 hts gX10_best_X10_within rfl rfl rfl (by decide +kernel) ⟨Nat.le_of_ble_eq_true rfl, Nat.le_of_ble_eq_true rfl⟩) (z_preS hN hK hP hD) rfl rfl hl.1 rfl (lv_room (Nat.le_of_ble_eq_true rfl)) dX10_best_3 ⟨Nat.zero_le _, Nat.zero_le _⟩) hS (fun H locs hP hD hS => ?_)
  refine lv_if_ne (tgt := 12) hx hb dX10_best_6 (by decide) (fun b16 => ?_) (fun b16 => ?_)
  · have hF := zif_f b16 hF
    refine lv_aload_n hx hb dX10_best_12 rfl (lv_at hl 0 rfl) ?_
    refine z_get (ci := 9) (C := RX10) (T := TX10) (N := 32) hx hb hts iX10_best_X10 hown hK hP (by decide) zm_0 rfl 5 (by decide) kX10_best_f77 rfl (v := .int (σ13 0 5)) rfl dX10_best_13 ?_
    refine lv_if_ne (tgt := 22) hx hb dX10_best_16 (by decide) (fun b17 => ?_) (fun b17 => ?_)
    · have hF := zif_f b17 hF
      refine lv_aload_n hx hb dX10_best_22 rfl (lv_at hl 0 rfl) ?_
      refine lv_bipush (v := (-9 : Int32)) hx hb dX10_best_23 (by decide) ?_
      obtain ⟨σ18, eσ18, hF⟩ := zlet_inv hF
      refine z_put (ci := 9) (C := RX10) (T := TX10) (N := 32) hx hb hts iX10_best_X10 tyX10 tyX10_ok nmX10 hown hK hP hD hS (by decide) zm_0 rfl 26 (by decide) kX10_best_f194 rfl rfl rfl rfl (Nat.le_of_ble_eq_true rfl) zm_0 dX10_best_25 (fun H locs hP hD hS => ?_)
      have hP : va_P D vwCl (zW (zm cI ad) 20 ad σ18) H := by rw [eσ18]; exact hP
      have hD : va_D A (zW (zm cI ad) 20 ad σ18) := by rw [eσ18]; exact hD
      refine lv_aload_n hx hb dX10_best_28 rfl (lv_at hl 0 rfl) ?_
      refine lv_iconst (v := (0 : Int32)) hx hb dX10_best_29 (by decide) ?_
      obtain ⟨σ19, eσ19, hF⟩ := zlet_inv hF
      refine z_put (ci := 9) (C := RX10) (T := TX10) (N := 32) hx hb hts iX10_best_X10 tyX10 tyX10_ok nmX10 hown hK hP hD hS (by decide) zm_0 rfl 27 (by decide) kX10_best_f197 rfl rfl rfl rfl (Nat.le_of_ble_eq_true rfl) zm_0 dX10_best_30 (fun H locs hP hD hS => ?_)
      have hP : va_P D vwCl (zW (zm cI ad) 20 ad σ19) H := by rw [eσ19]; exact hP
      have hD : va_D A (zW (zm cI ad) 20 ad σ19) := by rw [eσ19]; exact hD
      refine lv_aload_n hx hb dX10_best_33 rfl (lv_at hl 0 rfl) ?_
      refine z_get (ci := 9) (C := RX10) (T := TX10) (N := 32) hx hb hts iX10_best_X10 hown hK hP (by decide) zm_0 rfl 5 (by decide) kX10_best_f77 rfl (v := .int (σ19 0 5)) rfl dX10_best_34 ?_
      refine lv_iconst (v := (1 : Int32)) hx hb dX10_best_37 (by decide) ?_
      refine lv_iadd hx hb dX10_best_38 ?_
      refine lv_aload_n hx hb dX10_best_39 rfl (lv_at hl 0 rfl) ?_
      refine z_get (ci := 9) (C := RX10) (T := TX10) (N := 32) hx hb hts iX10_best_X10 hown hK hP (by decide) zm_0 rfl 5 (by decide) kX10_best_f77 rfl (v := .int (σ19 0 5)) rfl dX10_best_40 ?_
      refine lv_iconst (v := (1 : Int32)) hx hb dX10_best_43 (by decide) ?_
      refine lv_iadd hx hb dX10_best_44 ?_
      refine lv_imul hx hb dX10_best_45 ?_
      refine lv_aload_n hx hb dX10_best_46 rfl (lv_at hl 0 rfl) ?_
      refine z_get (ci := 9) (C := RX10) (T := TX10) (N := 32) hx hb hts iX10_best_X10 hown hK hP (by decide) zm_0 rfl 5 (by decide) kX10_best_f77 rfl (v := .int (σ19 0 5)) rfl dX10_best_47 ?_
      refine lv_iconst (v := (1 : Int32)) hx hb dX10_best_50 (by decide) ?_
      refine lv_iadd hx hb dX10_best_51 ?_
      refine lv_imul hx hb dX10_best_52 ?_
      refine lv_istore_n (lv' := [(2, .int ((((σ19 0 5) + (1 : Int32)) * ((σ19 0 5) + (1 : Int32))) * ((σ19 0 5) + (1 : Int32)))), (0, .ref (ad 0)), (1, .int p1)]) hx hb dX10_best_53 rfl hl (by decide) rfl (fun ls hl => ?_)
      refine lv_iconst (v := (0 : Int32)) hx hb dX10_best_54 (by decide) ?_
      refine lv_istore_n (lv' := [(3, .int (0 : Int32)), (2, .int ((((σ19 0 5) + (1 : Int32)) * ((σ19 0 5) + (1 : Int32))) * ((σ19 0 5) + (1 : Int32)))), (0, .ref (ad 0)), (1, .int p1)]) hx hb dX10_best_55 rfl hl (by decide) rfl (fun ls hl => ?_)
      exact hB56 n σ19 p1 ((((σ19 0 5) + (1 : Int32)) * ((σ19 0 5) + (1 : Int32))) * ((σ19 0 5) + (1 : Int32))) (0 : Int32) _ _ _ hF hP hD hS (lv_sub hl [2, 3, 1, 0] rfl)
    · have hF := zif_t b17 hF
      refine lv_bipush (v := (-3 : Int32)) hx hb dX10_best_19 (by decide) ?_
      exact z_iret hx hb hr hlocks hN hK hP hD hS hF dX10_best_21
  · have hF := zif_t b16 hF
    refine lv_bipush (v := (-2 : Int32)) hx hb dX10_best_9 (by decide) ?_
    exact z_iret hx hb hr hlocks hN hK hP hD hS hF dX10_best_11
theorem kX10_reading_f113 : Cond.fieldLink RX10 113 "LeastAskedModel" "readings" "I" ∈ wsX10_reading := by decide +kernel
theorem kX10_reading_f58 : Cond.fieldLink RX10 58 "LeastAskedModel" "readWho" "[I" ∈ wsX10_reading := by decide +kernel
theorem kX10_reading_f61 : Cond.fieldLink RX10 61 "LeastAskedModel" "readWhat" "[I" ∈ wsX10_reading := by decide +kernel
theorem kX10_reading_f64 : Cond.fieldLink RX10 64 "LeastAskedModel" "readBrought" "[I" ∈ wsX10_reading := by decide +kernel
theorem iX10_reading_X10 : ∀ w ∈ u_ws RX10 TX10 32, w ∈ wsX10_reading := fun _ h => List.mem_cons_of_mem _ (List.mem_append_right _ h)
set_option maxHeartbeats 4000000 in
set_option maxRecDepth 100000 in
theorem CX10_reading (l : Launch) (D : va_G) (cI cS cP : ClassId) (ad : Nat → Nat) (A : Nat → Prop) (n : Nat) (σ σ' : zMem) (r0 : Int32) (p1 : Int32) (p2 : Int32) (p3 : Int32) (hF : FX10_reading n σ p1 p2 p3 = some (r0, σ')) : Met l yX10_reading wsX10_reading ({ frames := 1, cells := 0, slots := 0, locals := 22 } : Room) (va_Pc [.ref (ad 0), .int p1, .int p2, .int p3] (zB (zm cI ad) 20 ad D (zty cI cS cP) A σ)) (va_Qi (fun r u => r = r0 ∧ u = σ') (zB (zm cI ad) 20 ad D (zty cI cS cP) A) A) 0 0 A := by
  refine Met.ofW (cc := cX10_reading) (maxL := 4) (ret := (some .int)) (by decide) rfl ?_
  intro p e s m args below meth c s₁ B hml hv
  obtain ⟨rfl, hP, hK, hD, hN⟩ := hv
  have hx := B.exec
  have hb := B.bytes
  have hr := B.returns
  have hts := atoms_spec (ws := wsX10_reading) B.pre
  have hown : s.vm.findClass RX10 = some m.cls := findClass_of_methodNamed B.named
  have hlocks := B.notSynchronized
  have hS : va_S A s.heap s.heap [] := va_S.rf
  have hl := lv_entry ([.ref (ad 0), .int p1, .int p2, .int p3]) (n := 4) (Nat.le_of_ble_eq_true rfl)
  rw [lg_entry_eq]
  generalize (lg_sl ([.ref (ad 0), .int p1, .int p2, .int p3]) ++ List.replicate (4 - (lg_sl ([.ref (ad 0), .int p1, .int p2, .int p3])).length) Slot.unset).toArray = ls at hl ⊢
  have hl : lv_has ls 4 [(0, .ref (ad 0)), (1, .int p1), (2, .int p2), (3, .int p3)] := hl
  clear B
  unfold FX10_reading at hF
  refine lv_aload_n hx hb dX10_reading_0 rfl (lv_at hl 0 rfl) ?_
  refine lv_iload_n hx hb dX10_reading_1 rfl (lv_at hl 1 rfl) ?_
  obtain ⟨r2, σ1, hC3, hF⟩ := zbd_inv hF
  refine z_calli (va_runV (As := [.int p1]) (rest := []) ⟨hx, hb, hml, hown, hts⟩ (CX10_isPerson l D cI cS cP ad A n σ σ1 r2 p1 hC3) (cwV 1 hts gX10_reading_X10_isPerson rfl rfl rfl (by decide +kernel) ⟨Nat.le_of_ble_eq_true rfl, Nat.le_of_ble_eq_true rfl⟩) (z_preV hN hK hP hD (by decide) zm_0 rfl) rfl rfl hl.1 rfl (lv_room (Nat.le_of_ble_eq_true rfl)) dX10_reading_2 ⟨Nat.zero_le _, Nat.zero_le _⟩) hS (fun H locs hP hD hS => ?_)
  refine lv_if_eq (tgt := 16) hx hb dX10_reading_5 (by decide) (fun b4 => ?_) (fun b4 => ?_)
  · have hF := zif_t b4 hF
    refine lv_iconst (v := (-1 : Int32)) hx hb dX10_reading_16 (by decide) ?_
    exact z_iret hx hb hr hlocks hN hK hP hD hS hF dX10_reading_17
  · have hF := zif_f b4 hF
    refine lv_aload_n hx hb dX10_reading_8 rfl (lv_at hl 0 rfl) ?_
    refine lv_iload_n hx hb dX10_reading_9 rfl (lv_at hl 2 rfl) ?_
    obtain ⟨r6, σ5, hC7, hF⟩ := zbd_inv hF
    refine z_calli (va_runV (As := [.int p2]) (rest := []) ⟨hx, hb, hml, hown, hts⟩ (CX10_isMatter l D cI cS cP ad A n σ1 σ5 r6 p2 hC7) (cwV 1 hts gX10_reading_X10_isMatter rfl rfl rfl (by decide +kernel) ⟨Nat.le_of_ble_eq_true rfl, Nat.le_of_ble_eq_true rfl⟩) (z_preV hN hK hP hD (by decide) zm_0 rfl) rfl rfl hl.1 rfl (lv_room (Nat.le_of_ble_eq_true rfl)) dX10_reading_10 ⟨Nat.zero_le _, Nat.zero_le _⟩) hS (fun H locs hP hD hS => ?_)
    refine lv_if_ne (tgt := 18) hx hb dX10_reading_13 (by decide) (fun b8 => ?_) (fun b8 => ?_)
    · have hF := zif_f b8 hF
      refine lv_iload_n hx hb dX10_reading_18 rfl (lv_at hl 3 rfl) ?_
      refine lv_iconst (v := (0 : Int32)) hx hb dX10_reading_19 (by decide) ?_
      refine lv_sipush (v := (200 : Int32)) hx hb dX10_reading_20 (by decide) ?_
      obtain ⟨r10, σ9, hC11, hF⟩ := zbd_inv hF
      refine z_calli (va_runS (As := [.int p3, .int (0 : Int32), .int (200 : Int32)]) (rest := []) ⟨hx, hb, hml, hown, hts⟩ (CX10_within l D cI cS cP ad A n σ5 σ9 r10 p3 (0 : Int32) (200 : Int32) hC11) (va_cwS 3 hts gX10_reading_X10_within rfl rfl rfl (by decide +kernel) ⟨Nat.le_of_ble_eq_true rfl, Nat.le_of_ble_eq_true rfl⟩) (z_preS hN hK hP hD) rfl rfl hl.1 rfl (lv_room (Nat.le_of_ble_eq_true rfl)) dX10_reading_23 ⟨Nat.zero_le _, Nat.zero_le _⟩) hS (fun H locs hP hD hS => ?_)
      refine lv_if_ne (tgt := 32) hx hb dX10_reading_26 (by decide) (fun b12 => ?_) (fun b12 => ?_)
      · have hF := zif_f b12 hF
        refine lv_aload_n hx hb dX10_reading_32 rfl (lv_at hl 0 rfl) ?_
        refine z_get (ci := 9) (C := RX10) (T := TX10) (N := 32) hx hb hts iX10_reading_X10 hown hK hP (by decide) zm_0 rfl 28 (by decide) kX10_reading_f113 rfl (v := .int (σ9 0 28)) rfl dX10_reading_33 ?_
        refine lv_bipush (v := (8 : Int32)) hx hb dX10_reading_36 (by decide) ?_
        refine lv_icmp_ne (tgt := 44) hx hb dX10_reading_38 (by decide) (fun b13 => ?_) (fun b13 => ?_)
        · have hF := zif_f b13 hF
          refine lv_aload_n hx hb dX10_reading_44 rfl (lv_at hl 0 rfl) ?_
          refine z_get (ci := 9) (C := RX10) (T := TX10) (N := 32) hx hb hts iX10_reading_X10 hown hK hP (by decide) zm_0 rfl 29 (by decide) kX10_reading_f58 rfl (v := .ref (ad 17)) rfl dX10_reading_45 ?_
          refine lv_aload_n hx hb dX10_reading_48 rfl (lv_at hl 0 rfl) ?_
          refine z_get (ci := 9) (C := RX10) (T := TX10) (N := 32) hx hb hts iX10_reading_X10 hown hK hP (by decide) zm_0 rfl 28 (by decide) kX10_reading_f113 rfl (v := .int (σ9 0 28)) rfl dX10_reading_49 ?_
          refine lv_iload_n hx hb dX10_reading_52 rfl (lv_at hl 1 rfl) ?_
          obtain ⟨g14, hF⟩ := zgd_inv hF
          obtain ⟨σ15, eσ15, hF⟩ := zlet_inv hF
          refine z_iast hx hb hK hP hD hS (by decide) (fun _ => (zm_a (n := 8) (by decide))) rfl g14 dX10_reading_53 (fun H locs hP hD hS => ?_)
          have hP : va_P D vwCl (zW (zm cI ad) 20 ad σ15) H := by rw [eσ15]; exact hP
          have hD : va_D A (zW (zm cI ad) 20 ad σ15) := by rw [eσ15]; exact hD
          refine lv_aload_n hx hb dX10_reading_54 rfl (lv_at hl 0 rfl) ?_
          refine z_get (ci := 9) (C := RX10) (T := TX10) (N := 32) hx hb hts iX10_reading_X10 hown hK hP (by decide) zm_0 rfl 30 (by decide) kX10_reading_f61 rfl (v := .ref (ad 18)) rfl dX10_reading_55 ?_
          refine lv_aload_n hx hb dX10_reading_58 rfl (lv_at hl 0 rfl) ?_
          refine z_get (ci := 9) (C := RX10) (T := TX10) (N := 32) hx hb hts iX10_reading_X10 hown hK hP (by decide) zm_0 rfl 28 (by decide) kX10_reading_f113 rfl (v := .int (σ15 0 28)) rfl dX10_reading_59 ?_
          refine lv_iload_n hx hb dX10_reading_62 rfl (lv_at hl 2 rfl) ?_
          obtain ⟨g16, hF⟩ := zgd_inv hF
          obtain ⟨σ17, eσ17, hF⟩ := zlet_inv hF
          refine z_iast hx hb hK hP hD hS (by decide) (fun _ => (zm_a (n := 8) (by decide))) rfl g16 dX10_reading_63 (fun H locs hP hD hS => ?_)
          have hP : va_P D vwCl (zW (zm cI ad) 20 ad σ17) H := by rw [eσ17]; exact hP
          have hD : va_D A (zW (zm cI ad) 20 ad σ17) := by rw [eσ17]; exact hD
          refine lv_aload_n hx hb dX10_reading_64 rfl (lv_at hl 0 rfl) ?_
          refine z_get (ci := 9) (C := RX10) (T := TX10) (N := 32) hx hb hts iX10_reading_X10 hown hK hP (by decide) zm_0 rfl 31 (by decide) kX10_reading_f64 rfl (v := .ref (ad 19)) rfl dX10_reading_65 ?_
          refine lv_aload_n hx hb dX10_reading_68 rfl (lv_at hl 0 rfl) ?_
          refine z_get (ci := 9) (C := RX10) (T := TX10) (N := 32) hx hb hts iX10_reading_X10 hown hK hP (by decide) zm_0 rfl 28 (by decide) kX10_reading_f113 rfl (v := .int (σ17 0 28)) rfl dX10_reading_69 ?_
          refine lv_iload_n hx hb dX10_reading_72 rfl (lv_at hl 3 rfl) ?_
          obtain ⟨g18, hF⟩ := zgd_inv hF
          obtain ⟨σ19, eσ19, hF⟩ := zlet_inv hF
          refine z_iast hx hb hK hP hD hS (by decide) (fun _ => (zm_a (n := 8) (by decide))) rfl g18 dX10_reading_73 (fun H locs hP hD hS => ?_)
          have hP : va_P D vwCl (zW (zm cI ad) 20 ad σ19) H := by rw [eσ19]; exact hP
          have hD : va_D A (zW (zm cI ad) 20 ad σ19) := by rw [eσ19]; exact hD
          refine lv_aload_n hx hb dX10_reading_74 rfl (lv_at hl 0 rfl) ?_
          refine lv_dup hx hb dX10_reading_75 rfl ?_
          refine z_get (ci := 9) (C := RX10) (T := TX10) (N := 32) hx hb hts iX10_reading_X10 hown hK hP (by decide) zm_0 rfl 28 (by decide) kX10_reading_f113 rfl (v := .int (σ19 0 28)) rfl dX10_reading_76 ?_
          refine lv_iconst (v := (1 : Int32)) hx hb dX10_reading_79 (by decide) ?_
          refine lv_iadd hx hb dX10_reading_80 ?_
          obtain ⟨σ20, eσ20, hF⟩ := zlet_inv hF
          refine z_put (ci := 9) (C := RX10) (T := TX10) (N := 32) hx hb hts iX10_reading_X10 tyX10 tyX10_ok nmX10 hown hK hP hD hS (by decide) zm_0 rfl 28 (by decide) kX10_reading_f113 rfl rfl rfl rfl (Nat.le_of_ble_eq_true rfl) zm_0 dX10_reading_81 (fun H locs hP hD hS => ?_)
          have hP : va_P D vwCl (zW (zm cI ad) 20 ad σ20) H := by rw [eσ20]; exact hP
          have hD : va_D A (zW (zm cI ad) 20 ad σ20) := by rw [eσ20]; exact hD
          refine lv_aload_n hx hb dX10_reading_84 rfl (lv_at hl 0 rfl) ?_
          refine z_get (ci := 9) (C := RX10) (T := TX10) (N := 32) hx hb hts iX10_reading_X10 hown hK hP (by decide) zm_0 rfl 28 (by decide) kX10_reading_f113 rfl (v := .int (σ20 0 28)) rfl dX10_reading_85 ?_
          refine lv_iconst (v := (1 : Int32)) hx hb dX10_reading_88 (by decide) ?_
          refine lv_isub hx hb dX10_reading_89 ?_
          exact z_iret hx hb hr hlocks hN hK hP hD hS hF dX10_reading_90
        · have hF := zif_t b13 hF
          refine lv_bipush (v := (-4 : Int32)) hx hb dX10_reading_41 (by decide) ?_
          exact z_iret hx hb hr hlocks hN hK hP hD hS hF dX10_reading_43
      · have hF := zif_t b12 hF
        refine lv_bipush (v := (-2 : Int32)) hx hb dX10_reading_29 (by decide) ?_
        exact z_iret hx hb hr hlocks hN hK hP hD hS hF dX10_reading_31
    · have hF := zif_t b8 hF
      refine lv_iconst (v := (-1 : Int32)) hx hb dX10_reading_16 (by decide) ?_
      exact z_iret hx hb hr hlocks hN hK hP hD hS hF dX10_reading_17
theorem kX10_back_f113 : Cond.fieldLink RX10 113 "LeastAskedModel" "readings" "I" ∈ wsX10_back := by decide +kernel
theorem iX10_back_X10 : ∀ w ∈ u_ws RX10 TX10 32, w ∈ wsX10_back := fun _ h => List.mem_cons_of_mem _ (List.mem_append_right _ h)
set_option maxHeartbeats 4000000 in
set_option maxRecDepth 100000 in
theorem CX10_back (l : Launch) (D : va_G) (cI cS cP : ClassId) (ad : Nat → Nat) (A : Nat → Prop) (n : Nat) (σ σ' : zMem) (r0 : Int32) (p1 : Int32) (hF : FX10_back n σ p1 = some (r0, σ')) : Met l yX10_back wsX10_back ({ frames := 1, cells := 0, slots := 0, locals := 22 } : Room) (va_Pc [.ref (ad 0), .int p1] (zB (zm cI ad) 20 ad D (zty cI cS cP) A σ)) (va_Qi (fun r u => r = r0 ∧ u = σ') (zB (zm cI ad) 20 ad D (zty cI cS cP) A) A) 0 0 A := by
  refine Met.ofW (cc := cX10_back) (maxL := 2) (ret := (some .int)) (by decide) rfl ?_
  intro p e s m args below meth c s₁ B hml hv
  obtain ⟨rfl, hP, hK, hD, hN⟩ := hv
  have hx := B.exec
  have hb := B.bytes
  have hr := B.returns
  have hts := atoms_spec (ws := wsX10_back) B.pre
  have hown : s.vm.findClass RX10 = some m.cls := findClass_of_methodNamed B.named
  have hlocks := B.notSynchronized
  have hS : va_S A s.heap s.heap [] := va_S.rf
  have hl := lv_entry ([.ref (ad 0), .int p1]) (n := 2) (Nat.le_of_ble_eq_true rfl)
  rw [lg_entry_eq]
  generalize (lg_sl ([.ref (ad 0), .int p1]) ++ List.replicate (2 - (lg_sl ([.ref (ad 0), .int p1])).length) Slot.unset).toArray = ls at hl ⊢
  have hl : lv_has ls 2 [(0, .ref (ad 0)), (1, .int p1)] := hl
  clear B
  unfold FX10_back at hF
  refine lv_iload_n hx hb dX10_back_0 rfl (lv_at hl 1 rfl) ?_
  refine lv_iconst (v := (0 : Int32)) hx hb dX10_back_1 (by decide) ?_
  refine lv_aload_n hx hb dX10_back_2 rfl (lv_at hl 0 rfl) ?_
  refine z_get (ci := 9) (C := RX10) (T := TX10) (N := 32) hx hb hts iX10_back_X10 hown hK hP (by decide) zm_0 rfl 28 (by decide) kX10_back_f113 rfl (v := .int (σ 0 28)) rfl dX10_back_3 ?_
  obtain ⟨r2, σ1, hC3, hF⟩ := zbd_inv hF
  refine z_calli (va_runS (As := [.int p1, .int (0 : Int32), .int (σ 0 28)]) (rest := []) ⟨hx, hb, hml, hown, hts⟩ (CX10_within l D cI cS cP ad A n σ σ1 r2 p1 (0 : Int32) (σ 0 28) hC3) (va_cwS 3 hts gX10_back_X10_within rfl rfl rfl (by decide +kernel) ⟨Nat.le_of_ble_eq_true rfl, Nat.le_of_ble_eq_true rfl⟩) (z_preS hN hK hP hD) rfl rfl hl.1 rfl (lv_room (Nat.le_of_ble_eq_true rfl)) dX10_back_6 ⟨Nat.zero_le _, Nat.zero_le _⟩) hS (fun H locs hP hD hS => ?_)
  refine lv_if_ne (tgt := 15) hx hb dX10_back_9 (by decide) (fun b4 => ?_) (fun b4 => ?_)
  · have hF := zif_f b4 hF
    refine lv_aload_n hx hb dX10_back_15 rfl (lv_at hl 0 rfl) ?_
    refine lv_dup hx hb dX10_back_16 rfl ?_
    refine z_get (ci := 9) (C := RX10) (T := TX10) (N := 32) hx hb hts iX10_back_X10 hown hK hP (by decide) zm_0 rfl 28 (by decide) kX10_back_f113 rfl (v := .int (σ1 0 28)) rfl dX10_back_17 ?_
    refine lv_iload_n hx hb dX10_back_20 rfl (lv_at hl 1 rfl) ?_
    refine lv_isub hx hb dX10_back_21 ?_
    obtain ⟨σ5, eσ5, hF⟩ := zlet_inv hF
    refine z_put (ci := 9) (C := RX10) (T := TX10) (N := 32) hx hb hts iX10_back_X10 tyX10 tyX10_ok nmX10 hown hK hP hD hS (by decide) zm_0 rfl 28 (by decide) kX10_back_f113 rfl rfl rfl rfl (Nat.le_of_ble_eq_true rfl) zm_0 dX10_back_22 (fun H locs hP hD hS => ?_)
    have hP : va_P D vwCl (zW (zm cI ad) 20 ad σ5) H := by rw [eσ5]; exact hP
    have hD : va_D A (zW (zm cI ad) 20 ad σ5) := by rw [eσ5]; exact hD
    refine lv_aload_n hx hb dX10_back_25 rfl (lv_at hl 0 rfl) ?_
    refine z_get (ci := 9) (C := RX10) (T := TX10) (N := 32) hx hb hts iX10_back_X10 hown hK hP (by decide) zm_0 rfl 28 (by decide) kX10_back_f113 rfl (v := .int (σ5 0 28)) rfl dX10_back_26 ?_
    exact z_iret hx hb hr hlocks hN hK hP hD hS hF dX10_back_29
  · have hF := zif_t b4 hF
    refine lv_bipush (v := (-2 : Int32)) hx hb dX10_back_12 (by decide) ?_
    exact z_iret hx hb hr hlocks hN hK hP hD hS hF dX10_back_14
theorem kX10_areSo_f113 : Cond.fieldLink RX10 113 "LeastAskedModel" "readings" "I" ∈ wsX10_areSo := by decide +kernel
theorem kX10_areSo_f58 : Cond.fieldLink RX10 58 "LeastAskedModel" "readWho" "[I" ∈ wsX10_areSo := by decide +kernel
theorem kX10_areSo_f61 : Cond.fieldLink RX10 61 "LeastAskedModel" "readWhat" "[I" ∈ wsX10_areSo := by decide +kernel
theorem kX10_areSo_f64 : Cond.fieldLink RX10 64 "LeastAskedModel" "readBrought" "[I" ∈ wsX10_areSo := by decide +kernel
theorem iX10_areSo_X10 : ∀ w ∈ u_ws RX10 TX10 32, w ∈ wsX10_areSo := fun _ h => List.mem_cons_of_mem _ (List.mem_append_right _ h)
set_option maxHeartbeats 4000000 in
set_option maxRecDepth 100000 in
theorem CX10_areSo (l : Launch) (D : va_G) (cI cS cP : ClassId) (ad : Nat → Nat) (A : Nat → Prop) (n : Nat) (σ σ' : zMem) (r0 : Int32) (hF : FX10_areSo n σ = some (r0, σ')) : Met l yX10_areSo wsX10_areSo ({ frames := 2, cells := 0, slots := 0, locals := 43 } : Room) (va_Pc [.ref (ad 0)] (zB (zm cI ad) 20 ad D (zty cI cS cP) A σ)) (va_Qi (fun r u => r = r0 ∧ u = σ') (zB (zm cI ad) 20 ad D (zty cI cS cP) A) A) 0 0 A := by
  refine Met.ofW (cc := cX10_areSo) (maxL := 2) (ret := (some .boolean)) (by decide) rfl ?_
  intro p e s m args below meth c s₁ B hml hv
  obtain ⟨rfl, hP, hK, hD, hN⟩ := hv
  have hx := B.exec
  have hb := B.bytes
  have hr := B.returns
  have hts := atoms_spec (ws := wsX10_areSo) B.pre
  have hown : s.vm.findClass RX10 = some m.cls := findClass_of_methodNamed B.named
  have hlocks := B.notSynchronized
  have hS : va_S A s.heap s.heap [] := va_S.rf
  have hl := lv_entry ([.ref (ad 0)]) (n := 2) (Nat.le_of_ble_eq_true rfl)
  rw [lg_entry_eq]
  generalize (lg_sl ([.ref (ad 0)]) ++ List.replicate (2 - (lg_sl ([.ref (ad 0)])).length) Slot.unset).toArray = ls at hl ⊢
  have hl : lv_has ls 2 [(0, .ref (ad 0))] := hl
  clear B
  have hB2 : ∀ (f2 : Nat) (σ : zMem) (l1 : Int32), ∀ (H : Heap) (locs : List Loc) (ls : Array Slot), zlp (LX10_areSo_2 n) f2 (σ, l1) = some (r0, σ') → va_P D vwCl (zW (zm cI ad) 20 ad σ) H → va_D A (zW (zm cI ad) 20 ad σ) → va_S A s.heap H locs → lv_has ls 2 [(0, .ref (ad 0)), (1, .int l1)] → W p l e (headSpec wsX10_areSo ({ frames := 2, cells := 0, slots := 0, locals := 43 } : Room)).room s m ([.ref (ad 0)] : List Value).toArray below meth c H locs 0 0 (MQ below (va_Qi (fun r u => r = r0 ∧ u = σ') (zB (zm cI ad) 20 ad D (zty cI cS cP) A) A) ([.ref (ad 0)] : List Value).toArray s 0 0 A) (F0 m 2 ls []) := by
    intro f2
    induction f2 with
    | zero => intro σ l1 H locs ls hF hP hD hS hl; exact (zlp_0 hF).elim
    | succ f2 ih2 =>
      intro σ l1 H locs ls hF hP hD hS hl
      have hF : LBX10_areSo_2 n   (zlp (LX10_areSo_2 n) f2) σ l1 = some (r0, σ') := hF
      unfold LBX10_areSo_2 at hF
      refine lv_iload_n hx hb dX10_areSo_2 rfl (lv_at hl 1 rfl) ?_
      refine lv_aload_n hx hb dX10_areSo_3 rfl (lv_at hl 0 rfl) ?_
      refine z_get (ci := 9) (C := RX10) (T := TX10) (N := 32) hx hb hts iX10_areSo_X10 hown hK hP (by decide) zm_0 rfl 28 (by decide) kX10_areSo_f113 rfl (v := .int (σ 0 28)) rfl dX10_areSo_4 ?_
      refine lv_icmp_ge (tgt := 43) hx hb dX10_areSo_7 (by decide) (fun b1 => ?_) (fun b1 => ?_)
      · have hF := zif_t b1 hF
        refine lv_iconst (v := (1 : Int32)) hx hb dX10_areSo_43 (by decide) ?_
        exact z_zret hx hb hr hlocks (Or.inr rfl) hN hK hP hD hS hF dX10_areSo_44
      · have hF := zif_f b1 hF
        refine lv_aload_n hx hb dX10_areSo_10 rfl (lv_at hl 0 rfl) ?_
        refine lv_aload_n hx hb dX10_areSo_11 rfl (lv_at hl 0 rfl) ?_
        refine z_get (ci := 9) (C := RX10) (T := TX10) (N := 32) hx hb hts iX10_areSo_X10 hown hK hP (by decide) zm_0 rfl 29 (by decide) kX10_areSo_f58 rfl (v := .ref (ad 17)) rfl dX10_areSo_12 ?_
        refine lv_iload_n hx hb dX10_areSo_15 rfl (lv_at hl 1 rfl) ?_
        obtain ⟨g2, hF⟩ := zgd_inv hF
        refine z_iald hx hb hK hP (by decide) (zm_a (n := 8) (by decide)) rfl g2 dX10_areSo_16 ?_
        refine lv_aload_n hx hb dX10_areSo_17 rfl (lv_at hl 0 rfl) ?_
        refine z_get (ci := 9) (C := RX10) (T := TX10) (N := 32) hx hb hts iX10_areSo_X10 hown hK hP (by decide) zm_0 rfl 30 (by decide) kX10_areSo_f61 rfl (v := .ref (ad 18)) rfl dX10_areSo_18 ?_
        refine lv_iload_n hx hb dX10_areSo_21 rfl (lv_at hl 1 rfl) ?_
        obtain ⟨g3, hF⟩ := zgd_inv hF
        refine z_iald hx hb hK hP (by decide) (zm_a (n := 8) (by decide)) rfl g3 dX10_areSo_22 ?_
        obtain ⟨r5, σ4, hC6, hF⟩ := zbd_inv hF
        refine z_calli (va_runV (As := [.int (σ 17 (l1 : Int32).toNatClampNeg), .int (σ 18 (l1 : Int32).toNatClampNeg)]) (rest := []) ⟨hx, hb, hml, hown, hts⟩ (CX10_bringsOf l D cI cS cP ad A n σ σ4 r5 (σ 17 (l1 : Int32).toNatClampNeg) (σ 18 (l1 : Int32).toNatClampNeg) hC6) (cwV 2 hts gX10_areSo_X10_bringsOf rfl rfl rfl (by decide +kernel) ⟨Nat.le_of_ble_eq_true rfl, Nat.le_of_ble_eq_true rfl⟩) (z_preV hN hK hP hD (by decide) zm_0 rfl) rfl rfl hl.1 rfl (lv_room (Nat.le_of_ble_eq_true rfl)) dX10_areSo_23 ⟨Nat.zero_le _, Nat.zero_le _⟩) hS (fun H locs hP hD hS => ?_)
        refine lv_aload_n hx hb dX10_areSo_26 rfl (lv_at hl 0 rfl) ?_
        refine z_get (ci := 9) (C := RX10) (T := TX10) (N := 32) hx hb hts iX10_areSo_X10 hown hK hP (by decide) zm_0 rfl 31 (by decide) kX10_areSo_f64 rfl (v := .ref (ad 19)) rfl dX10_areSo_27 ?_
        refine lv_iload_n hx hb dX10_areSo_30 rfl (lv_at hl 1 rfl) ?_
        obtain ⟨g7, hF⟩ := zgd_inv hF
        refine z_iald hx hb hK hP (by decide) (zm_a (n := 8) (by decide)) rfl g7 dX10_areSo_31 ?_
        refine lv_icmp_eq (tgt := 37) hx hb dX10_areSo_32 (by decide) (fun b8 => ?_) (fun b8 => ?_)
        · have hF := zif_t b8 hF
          refine lv_iinc (v := (l1 + (1 : Int32))) (lv' := [(1, .int (l1 + (1 : Int32))), (0, .ref (ad 0))]) hx hb dX10_areSo_37 hl (k := 1) rfl rfl (by decide) rfl (fun ls hl => ?_)
          refine lv_goto (tgt := 2) hx hb dX10_areSo_40 (by decide) ?_
          exact ih2 σ4 (l1 + (1 : Int32)) _ _ _ hF hP hD hS (lv_sub hl [1, 0] rfl)
        · have hF := zif_f b8 hF
          refine lv_iconst (v := (0 : Int32)) hx hb dX10_areSo_35 (by decide) ?_
          exact z_zret hx hb hr hlocks (Or.inl rfl) hN hK hP hD hS hF dX10_areSo_36
  unfold FX10_areSo at hF
  refine lv_iconst (v := (0 : Int32)) hx hb dX10_areSo_0 (by decide) ?_
  refine lv_istore_n (lv' := [(1, .int (0 : Int32)), (0, .ref (ad 0))]) hx hb dX10_areSo_1 rfl hl (by decide) rfl (fun ls hl => ?_)
  exact hB2 n σ (0 : Int32) _ _ _ hF hP hD hS (lv_sub hl [1, 0] rfl)
theorem kX10_knowings_f28 : Cond.fieldLink RX10 28 "LeastAskedModel" "knows" "[I" ∈ wsX10_knowings := by decide +kernel
theorem iX10_knowings_X10 : ∀ w ∈ u_ws RX10 TX10 32, w ∈ wsX10_knowings := fun _ h => List.mem_cons_of_mem _ (List.mem_append_right _ h)
set_option maxHeartbeats 4000000 in
set_option maxRecDepth 100000 in
theorem CX10_knowings (l : Launch) (D : va_G) (cI cS cP : ClassId) (ad : Nat → Nat) (A : Nat → Prop) (n : Nat) (σ σ' : zMem) (r0 : Int32) (p1 : Int32) (hF : FX10_knowings n σ p1 = some (r0, σ')) : Met l yX10_knowings wsX10_knowings ({ frames := 3, cells := 0, slots := 0, locals := 64 } : Room) (va_Pc [.ref (ad 0), .int p1] (zB (zm cI ad) 20 ad D (zty cI cS cP) A σ)) (va_Qi (fun r u => r = r0 ∧ u = σ') (zB (zm cI ad) 20 ad D (zty cI cS cP) A) A) 0 0 A := by
  refine Met.ofW (cc := cX10_knowings) (maxL := 5) (ret := (some .int)) (by decide) rfl ?_
  intro p e s m args below meth c s₁ B hml hv
  obtain ⟨rfl, hP, hK, hD, hN⟩ := hv
  have hx := B.exec
  have hb := B.bytes
  have hr := B.returns
  have hts := atoms_spec (ws := wsX10_knowings) B.pre
  have hown : s.vm.findClass RX10 = some m.cls := findClass_of_methodNamed B.named
  have hlocks := B.notSynchronized
  have hS : va_S A s.heap s.heap [] := va_S.rf
  have hl := lv_entry ([.ref (ad 0), .int p1]) (n := 5) (Nat.le_of_ble_eq_true rfl)
  rw [lg_entry_eq]
  generalize (lg_sl ([.ref (ad 0), .int p1]) ++ List.replicate (5 - (lg_sl ([.ref (ad 0), .int p1])).length) Slot.unset).toArray = ls at hl ⊢
  have hl : lv_has ls 5 [(0, .ref (ad 0)), (1, .int p1)] := hl
  clear B
  have hB22 : ∀ (f22 : Nat) (σ : zMem) (l1 : Int32) (l2 : Int32) (l3 : Int32) (l4 : Int32), ∀ (H : Heap) (locs : List Loc) (ls : Array Slot), zlp (LX10_knowings_22 n) f22 (σ, l1, l2, l3, l4) = some (r0, σ') → va_P D vwCl (zW (zm cI ad) 20 ad σ) H → va_D A (zW (zm cI ad) 20 ad σ) → va_S A s.heap H locs → lv_has ls 5 [(0, .ref (ad 0)), (1, .int l1), (2, .int l2), (3, .int l3), (4, .int l4)] → W p l e (headSpec wsX10_knowings ({ frames := 3, cells := 0, slots := 0, locals := 64 } : Room)).room s m ([.ref (ad 0), .int p1] : List Value).toArray below meth c H locs 0 0 (MQ below (va_Qi (fun r u => r = r0 ∧ u = σ') (zB (zm cI ad) 20 ad D (zty cI cS cP) A) A) ([.ref (ad 0), .int p1] : List Value).toArray s 0 0 A) (F0 m 22 ls []) := by
    intro f22
    induction f22 with
    | zero => intro σ l1 l2 l3 l4 H locs ls hF hP hD hS hl; exact (zlp_0 hF).elim
    | succ f22 ih22 =>
      have hB53 : ∀ (σ : zMem) (l1 : Int32) (l2 : Int32) (l3 : Int32) (l4 : Int32) (s0 : Int32) (s1 : Int32), ∀ (H : Heap) (locs : List Loc) (ls : Array Slot), BX10_knowings_53 n (zlp (LX10_knowings_22 n) f22) σ l1 l2 l3 l4 s0 s1 = some (r0, σ') → va_P D vwCl (zW (zm cI ad) 20 ad σ) H → va_D A (zW (zm cI ad) 20 ad σ) → va_S A s.heap H locs → lv_has ls 5 [(0, .ref (ad 0)), (1, .int l1), (2, .int l2), (3, .int l3), (4, .int l4)] → W p l e (headSpec wsX10_knowings ({ frames := 3, cells := 0, slots := 0, locals := 64 } : Room)).room s m ([.ref (ad 0), .int p1] : List Value).toArray below meth c H locs 0 0 (MQ below (va_Qi (fun r u => r = r0 ∧ u = σ') (zB (zm cI ad) 20 ad D (zty cI cS cP) A) A) ([.ref (ad 0), .int p1] : List Value).toArray s 0 0 A) (F0 m 53 ls [.int s1, .int s0]) := by
        intro σ l1 l2 l3 l4 s0 s1 H locs ls hF hP hD hS hl
        unfold BX10_knowings_53 at hF
        refine lv_ior hx hb dX10_knowings_53 ?_
        refine lv_istore_n (lv' := [(3, .int (s0 ||| s1)), (0, .ref (ad 0)), (1, .int l1), (2, .int l2), (4, .int l4)]) hx hb dX10_knowings_54 rfl hl (by decide) rfl (fun ls hl => ?_)
        refine lv_iinc (v := (l4 + (1 : Int32))) (lv' := [(4, .int (l4 + (1 : Int32))), (3, .int (s0 ||| s1)), (0, .ref (ad 0)), (1, .int l1), (2, .int l2)]) hx hb dX10_knowings_55 hl (k := 4) rfl rfl (by decide) rfl (fun ls hl => ?_)
        refine lv_goto (tgt := 22) hx hb dX10_knowings_58 (by decide) ?_
        exact ih22 σ l1 l2 (s0 ||| s1) (l4 + (1 : Int32)) _ _ _ hF hP hD hS (lv_sub hl [2, 3, 4, 1, 0] rfl)
      intro σ l1 l2 l3 l4 H locs ls hF hP hD hS hl
      have hF : LBX10_knowings_22 n   (zlp (LX10_knowings_22 n) f22) σ l1 l2 l3 l4 = some (r0, σ') := hF
      unfold LBX10_knowings_22 at hF
      refine lv_iload hx hb dX10_knowings_22 (lv_at hl 4 rfl) ?_
      refine lv_bipush (v := (7 : Int32)) hx hb dX10_knowings_24 (by decide) ?_
      refine lv_icmp_gt (tgt := 61) hx hb dX10_knowings_26 (by decide) (fun b1 => ?_) (fun b1 => ?_)
      · have hF := zif_t b1 hF
        refine lv_aload_n hx hb dX10_knowings_61 rfl (lv_at hl 0 rfl) ?_
        refine z_get (ci := 9) (C := RX10) (T := TX10) (N := 32) hx hb hts iX10_knowings_X10 hown hK hP (by decide) zm_0 rfl 11 (by decide) kX10_knowings_f28 rfl (v := .ref (ad 7)) rfl dX10_knowings_62 ?_
        refine lv_iload_n hx hb dX10_knowings_65 rfl (lv_at hl 1 rfl) ?_
        refine lv_iload_n hx hb dX10_knowings_66 rfl (lv_at hl 2 rfl) ?_
        obtain ⟨g2, hF⟩ := zgd_inv hF
        obtain ⟨σ3, eσ3, hF⟩ := zlet_inv hF
        refine z_iast hx hb hK hP hD hS (by decide) (fun _ => (zm_a (n := 6) (by decide))) rfl g2 dX10_knowings_67 (fun H locs hP hD hS => ?_)
        have hP : va_P D vwCl (zW (zm cI ad) 20 ad σ3) H := by rw [eσ3]; exact hP
        have hD : va_D A (zW (zm cI ad) 20 ad σ3) := by rw [eσ3]; exact hD
        refine lv_iload_n hx hb dX10_knowings_68 rfl (lv_at hl 3 rfl) ?_
        exact z_iret hx hb hr hlocks hN hK hP hD hS hF dX10_knowings_69
      · have hF := zif_f b1 hF
        refine lv_aload_n hx hb dX10_knowings_29 rfl (lv_at hl 0 rfl) ?_
        refine z_get (ci := 9) (C := RX10) (T := TX10) (N := 32) hx hb hts iX10_knowings_X10 hown hK hP (by decide) zm_0 rfl 11 (by decide) kX10_knowings_f28 rfl (v := .ref (ad 7)) rfl dX10_knowings_30 ?_
        refine lv_iload_n hx hb dX10_knowings_33 rfl (lv_at hl 1 rfl) ?_
        refine lv_iload hx hb dX10_knowings_34 (lv_at hl 4 rfl) ?_
        obtain ⟨g4, hF⟩ := zgd_inv hF
        obtain ⟨σ5, eσ5, hF⟩ := zlet_inv hF
        refine z_iast hx hb hK hP hD hS (by decide) (fun _ => (zm_a (n := 6) (by decide))) rfl g4 dX10_knowings_36 (fun H locs hP hD hS => ?_)
        have hP : va_P D vwCl (zW (zm cI ad) 20 ad σ5) H := by rw [eσ5]; exact hP
        have hD : va_D A (zW (zm cI ad) 20 ad σ5) := by rw [eσ5]; exact hD
        refine lv_iload_n hx hb dX10_knowings_37 rfl (lv_at hl 3 rfl) ?_
        refine lv_aload_n hx hb dX10_knowings_38 rfl (lv_at hl 0 rfl) ?_
        obtain ⟨r7, σ6, hC8, hF⟩ := zbd_inv hF
        refine z_calli (va_runV (As := []) (rest := [.int l3]) ⟨hx, hb, hml, hown, hts⟩ (CX10_areSo l D cI cS cP ad A n σ5 σ6 r7 hC8) (cwV 0 hts gX10_knowings_X10_areSo rfl rfl rfl (by decide +kernel) ⟨Nat.le_of_ble_eq_true rfl, Nat.le_of_ble_eq_true rfl⟩) (z_preV hN hK hP hD (by decide) zm_0 rfl) rfl rfl hl.1 rfl (lv_room (Nat.le_of_ble_eq_true rfl)) dX10_knowings_39 ⟨Nat.zero_le _, Nat.zero_le _⟩) hS (fun H locs hP hD hS => ?_)
        refine lv_if_eq (tgt := 52) hx hb dX10_knowings_42 (by decide) (fun b9 => ?_) (fun b9 => ?_)
        · have hF := zif_t b9 hF
          refine lv_iconst (v := (0 : Int32)) hx hb dX10_knowings_52 (by decide) ?_
          exact hB53 σ6 l1 l2 l3 l4 l3 (0 : Int32) _ _ _ hF hP hD hS (lv_sub hl [0, 1, 2, 3, 4] rfl)
        · have hF := zif_f b9 hF
          refine lv_iconst (v := (1 : Int32)) hx hb dX10_knowings_45 (by decide) ?_
          refine lv_iload hx hb dX10_knowings_46 (lv_at hl 4 rfl) ?_
          refine lv_ishl hx hb dX10_knowings_48 ?_
          refine lv_goto (tgt := 53) hx hb dX10_knowings_49 (by decide) ?_
          exact hB53 σ6 l1 l2 l3 l4 l3 ((1 : Int32) <<< (l4 &&& 31)) _ _ _ hF hP hD hS (lv_sub hl [0, 1, 2, 3, 4] rfl)
  unfold FX10_knowings at hF
  refine lv_aload_n hx hb dX10_knowings_0 rfl (lv_at hl 0 rfl) ?_
  refine lv_iload_n hx hb dX10_knowings_1 rfl (lv_at hl 1 rfl) ?_
  obtain ⟨r11, σ10, hC12, hF⟩ := zbd_inv hF
  refine z_calli (va_runV (As := [.int p1]) (rest := []) ⟨hx, hb, hml, hown, hts⟩ (CX10_isPerson l D cI cS cP ad A n σ σ10 r11 p1 hC12) (cwV 1 hts gX10_knowings_X10_isPerson rfl rfl rfl (by decide +kernel) ⟨Nat.le_of_ble_eq_true rfl, Nat.le_of_ble_eq_true rfl⟩) (z_preV hN hK hP hD (by decide) zm_0 rfl) rfl rfl hl.1 rfl (lv_room (Nat.le_of_ble_eq_true rfl)) dX10_knowings_2 ⟨Nat.zero_le _, Nat.zero_le _⟩) hS (fun H locs hP hD hS => ?_)
  refine lv_if_ne (tgt := 10) hx hb dX10_knowings_5 (by decide) (fun b13 => ?_) (fun b13 => ?_)
  · have hF := zif_f b13 hF
    refine lv_aload_n hx hb dX10_knowings_10 rfl (lv_at hl 0 rfl) ?_
    refine z_get (ci := 9) (C := RX10) (T := TX10) (N := 32) hx hb hts iX10_knowings_X10 hown hK hP (by decide) zm_0 rfl 11 (by decide) kX10_knowings_f28 rfl (v := .ref (ad 7)) rfl dX10_knowings_11 ?_
    refine lv_iload_n hx hb dX10_knowings_14 rfl (lv_at hl 1 rfl) ?_
    obtain ⟨g14, hF⟩ := zgd_inv hF
    refine z_iald hx hb hK hP (by decide) (zm_a (n := 6) (by decide)) rfl g14 dX10_knowings_15 ?_
    refine lv_istore_n (lv' := [(2, .int (σ10 7 (p1 : Int32).toNatClampNeg)), (0, .ref (ad 0)), (1, .int p1)]) hx hb dX10_knowings_16 rfl hl (by decide) rfl (fun ls hl => ?_)
    refine lv_iconst (v := (0 : Int32)) hx hb dX10_knowings_17 (by decide) ?_
    refine lv_istore_n (lv' := [(3, .int (0 : Int32)), (2, .int (σ10 7 (p1 : Int32).toNatClampNeg)), (0, .ref (ad 0)), (1, .int p1)]) hx hb dX10_knowings_18 rfl hl (by decide) rfl (fun ls hl => ?_)
    refine lv_iconst (v := (0 : Int32)) hx hb dX10_knowings_19 (by decide) ?_
    refine lv_istore (lv' := [(4, .int (0 : Int32)), (3, .int (0 : Int32)), (2, .int (σ10 7 (p1 : Int32).toNatClampNeg)), (0, .ref (ad 0)), (1, .int p1)]) hx hb dX10_knowings_20 hl (by decide) rfl (fun ls hl => ?_)
    exact hB22 n σ10 p1 (σ10 7 (p1 : Int32).toNatClampNeg) (0 : Int32) (0 : Int32) _ _ _ hF hP hD hS (lv_sub hl [3, 4, 2, 1, 0] rfl)
  · have hF := zif_t b13 hF
    refine lv_iconst (v := (-1 : Int32)) hx hb dX10_knowings_8 (by decide) ?_
    exact z_iret hx hb hr hlocks hN hK hP hD hS hF dX10_knowings_9
theorem kX10_wits_f31 : Cond.fieldLink RX10 31 "LeastAskedModel" "wit" "[I" ∈ wsX10_wits := by decide +kernel
theorem iX10_wits_X10 : ∀ w ∈ u_ws RX10 TX10 32, w ∈ wsX10_wits := fun _ h => List.mem_cons_of_mem _ (List.mem_append_right _ h)
set_option maxHeartbeats 4000000 in
set_option maxRecDepth 100000 in
theorem CX10_wits (l : Launch) (D : va_G) (cI cS cP : ClassId) (ad : Nat → Nat) (A : Nat → Prop) (n : Nat) (σ σ' : zMem) (r0 : Int32) (p1 : Int32) (hF : FX10_wits n σ p1 = some (r0, σ')) : Met l yX10_wits wsX10_wits ({ frames := 3, cells := 0, slots := 0, locals := 64 } : Room) (va_Pc [.ref (ad 0), .int p1] (zB (zm cI ad) 20 ad D (zty cI cS cP) A σ)) (va_Qi (fun r u => r = r0 ∧ u = σ') (zB (zm cI ad) 20 ad D (zty cI cS cP) A) A) 0 0 A := by
  refine Met.ofW (cc := cX10_wits) (maxL := 5) (ret := (some .int)) (by decide) rfl ?_
  intro p e s m args below meth c s₁ B hml hv
  obtain ⟨rfl, hP, hK, hD, hN⟩ := hv
  have hx := B.exec
  have hb := B.bytes
  have hr := B.returns
  have hts := atoms_spec (ws := wsX10_wits) B.pre
  have hown : s.vm.findClass RX10 = some m.cls := findClass_of_methodNamed B.named
  have hlocks := B.notSynchronized
  have hS : va_S A s.heap s.heap [] := va_S.rf
  have hl := lv_entry ([.ref (ad 0), .int p1]) (n := 5) (Nat.le_of_ble_eq_true rfl)
  rw [lg_entry_eq]
  generalize (lg_sl ([.ref (ad 0), .int p1]) ++ List.replicate (5 - (lg_sl ([.ref (ad 0), .int p1])).length) Slot.unset).toArray = ls at hl ⊢
  have hl : lv_has ls 5 [(0, .ref (ad 0)), (1, .int p1)] := hl
  clear B
  have hB22 : ∀ (f22 : Nat) (σ : zMem) (l1 : Int32) (l2 : Int32) (l3 : Int32) (l4 : Int32), ∀ (H : Heap) (locs : List Loc) (ls : Array Slot), zlp (LX10_wits_22 n) f22 (σ, l1, l2, l3, l4) = some (r0, σ') → va_P D vwCl (zW (zm cI ad) 20 ad σ) H → va_D A (zW (zm cI ad) 20 ad σ) → va_S A s.heap H locs → lv_has ls 5 [(0, .ref (ad 0)), (1, .int l1), (2, .int l2), (3, .int l3), (4, .int l4)] → W p l e (headSpec wsX10_wits ({ frames := 3, cells := 0, slots := 0, locals := 64 } : Room)).room s m ([.ref (ad 0), .int p1] : List Value).toArray below meth c H locs 0 0 (MQ below (va_Qi (fun r u => r = r0 ∧ u = σ') (zB (zm cI ad) 20 ad D (zty cI cS cP) A) A) ([.ref (ad 0), .int p1] : List Value).toArray s 0 0 A) (F0 m 22 ls []) := by
    intro f22
    induction f22 with
    | zero => intro σ l1 l2 l3 l4 H locs ls hF hP hD hS hl; exact (zlp_0 hF).elim
    | succ f22 ih22 =>
      have hB53 : ∀ (σ : zMem) (l1 : Int32) (l2 : Int32) (l3 : Int32) (l4 : Int32) (s0 : Int32) (s1 : Int32), ∀ (H : Heap) (locs : List Loc) (ls : Array Slot), BX10_wits_53 n (zlp (LX10_wits_22 n) f22) σ l1 l2 l3 l4 s0 s1 = some (r0, σ') → va_P D vwCl (zW (zm cI ad) 20 ad σ) H → va_D A (zW (zm cI ad) 20 ad σ) → va_S A s.heap H locs → lv_has ls 5 [(0, .ref (ad 0)), (1, .int l1), (2, .int l2), (3, .int l3), (4, .int l4)] → W p l e (headSpec wsX10_wits ({ frames := 3, cells := 0, slots := 0, locals := 64 } : Room)).room s m ([.ref (ad 0), .int p1] : List Value).toArray below meth c H locs 0 0 (MQ below (va_Qi (fun r u => r = r0 ∧ u = σ') (zB (zm cI ad) 20 ad D (zty cI cS cP) A) A) ([.ref (ad 0), .int p1] : List Value).toArray s 0 0 A) (F0 m 53 ls [.int s1, .int s0]) := by
        intro σ l1 l2 l3 l4 s0 s1 H locs ls hF hP hD hS hl
        unfold BX10_wits_53 at hF
        refine lv_ior hx hb dX10_wits_53 ?_
        refine lv_istore_n (lv' := [(3, .int (s0 ||| s1)), (0, .ref (ad 0)), (1, .int l1), (2, .int l2), (4, .int l4)]) hx hb dX10_wits_54 rfl hl (by decide) rfl (fun ls hl => ?_)
        refine lv_iinc (v := (l4 + (1 : Int32))) (lv' := [(4, .int (l4 + (1 : Int32))), (3, .int (s0 ||| s1)), (0, .ref (ad 0)), (1, .int l1), (2, .int l2)]) hx hb dX10_wits_55 hl (k := 4) rfl rfl (by decide) rfl (fun ls hl => ?_)
        refine lv_goto (tgt := 22) hx hb dX10_wits_58 (by decide) ?_
        exact ih22 σ l1 l2 (s0 ||| s1) (l4 + (1 : Int32)) _ _ _ hF hP hD hS (lv_sub hl [2, 3, 4, 1, 0] rfl)
      intro σ l1 l2 l3 l4 H locs ls hF hP hD hS hl
      have hF : LBX10_wits_22 n   (zlp (LX10_wits_22 n) f22) σ l1 l2 l3 l4 = some (r0, σ') := hF
      unfold LBX10_wits_22 at hF
      refine lv_iload hx hb dX10_wits_22 (lv_at hl 4 rfl) ?_
      refine lv_bipush (v := (9 : Int32)) hx hb dX10_wits_24 (by decide) ?_
      refine lv_icmp_gt (tgt := 61) hx hb dX10_wits_26 (by decide) (fun b1 => ?_) (fun b1 => ?_)
      · have hF := zif_t b1 hF
        refine lv_aload_n hx hb dX10_wits_61 rfl (lv_at hl 0 rfl) ?_
        refine z_get (ci := 9) (C := RX10) (T := TX10) (N := 32) hx hb hts iX10_wits_X10 hown hK hP (by decide) zm_0 rfl 12 (by decide) kX10_wits_f31 rfl (v := .ref (ad 8)) rfl dX10_wits_62 ?_
        refine lv_iload_n hx hb dX10_wits_65 rfl (lv_at hl 1 rfl) ?_
        refine lv_iload_n hx hb dX10_wits_66 rfl (lv_at hl 2 rfl) ?_
        obtain ⟨g2, hF⟩ := zgd_inv hF
        obtain ⟨σ3, eσ3, hF⟩ := zlet_inv hF
        refine z_iast hx hb hK hP hD hS (by decide) (fun _ => (zm_a (n := 6) (by decide))) rfl g2 dX10_wits_67 (fun H locs hP hD hS => ?_)
        have hP : va_P D vwCl (zW (zm cI ad) 20 ad σ3) H := by rw [eσ3]; exact hP
        have hD : va_D A (zW (zm cI ad) 20 ad σ3) := by rw [eσ3]; exact hD
        refine lv_iload_n hx hb dX10_wits_68 rfl (lv_at hl 3 rfl) ?_
        exact z_iret hx hb hr hlocks hN hK hP hD hS hF dX10_wits_69
      · have hF := zif_f b1 hF
        refine lv_aload_n hx hb dX10_wits_29 rfl (lv_at hl 0 rfl) ?_
        refine z_get (ci := 9) (C := RX10) (T := TX10) (N := 32) hx hb hts iX10_wits_X10 hown hK hP (by decide) zm_0 rfl 12 (by decide) kX10_wits_f31 rfl (v := .ref (ad 8)) rfl dX10_wits_30 ?_
        refine lv_iload_n hx hb dX10_wits_33 rfl (lv_at hl 1 rfl) ?_
        refine lv_iload hx hb dX10_wits_34 (lv_at hl 4 rfl) ?_
        obtain ⟨g4, hF⟩ := zgd_inv hF
        obtain ⟨σ5, eσ5, hF⟩ := zlet_inv hF
        refine z_iast hx hb hK hP hD hS (by decide) (fun _ => (zm_a (n := 6) (by decide))) rfl g4 dX10_wits_36 (fun H locs hP hD hS => ?_)
        have hP : va_P D vwCl (zW (zm cI ad) 20 ad σ5) H := by rw [eσ5]; exact hP
        have hD : va_D A (zW (zm cI ad) 20 ad σ5) := by rw [eσ5]; exact hD
        refine lv_iload_n hx hb dX10_wits_37 rfl (lv_at hl 3 rfl) ?_
        refine lv_aload_n hx hb dX10_wits_38 rfl (lv_at hl 0 rfl) ?_
        obtain ⟨r7, σ6, hC8, hF⟩ := zbd_inv hF
        refine z_calli (va_runV (As := []) (rest := [.int l3]) ⟨hx, hb, hml, hown, hts⟩ (CX10_areSo l D cI cS cP ad A n σ5 σ6 r7 hC8) (cwV 0 hts gX10_wits_X10_areSo rfl rfl rfl (by decide +kernel) ⟨Nat.le_of_ble_eq_true rfl, Nat.le_of_ble_eq_true rfl⟩) (z_preV hN hK hP hD (by decide) zm_0 rfl) rfl rfl hl.1 rfl (lv_room (Nat.le_of_ble_eq_true rfl)) dX10_wits_39 ⟨Nat.zero_le _, Nat.zero_le _⟩) hS (fun H locs hP hD hS => ?_)
        refine lv_if_eq (tgt := 52) hx hb dX10_wits_42 (by decide) (fun b9 => ?_) (fun b9 => ?_)
        · have hF := zif_t b9 hF
          refine lv_iconst (v := (0 : Int32)) hx hb dX10_wits_52 (by decide) ?_
          exact hB53 σ6 l1 l2 l3 l4 l3 (0 : Int32) _ _ _ hF hP hD hS (lv_sub hl [0, 1, 2, 3, 4] rfl)
        · have hF := zif_f b9 hF
          refine lv_iconst (v := (1 : Int32)) hx hb dX10_wits_45 (by decide) ?_
          refine lv_iload hx hb dX10_wits_46 (lv_at hl 4 rfl) ?_
          refine lv_ishl hx hb dX10_wits_48 ?_
          refine lv_goto (tgt := 53) hx hb dX10_wits_49 (by decide) ?_
          exact hB53 σ6 l1 l2 l3 l4 l3 ((1 : Int32) <<< (l4 &&& 31)) _ _ _ hF hP hD hS (lv_sub hl [0, 1, 2, 3, 4] rfl)
  unfold FX10_wits at hF
  refine lv_aload_n hx hb dX10_wits_0 rfl (lv_at hl 0 rfl) ?_
  refine lv_iload_n hx hb dX10_wits_1 rfl (lv_at hl 1 rfl) ?_
  obtain ⟨r11, σ10, hC12, hF⟩ := zbd_inv hF
  refine z_calli (va_runV (As := [.int p1]) (rest := []) ⟨hx, hb, hml, hown, hts⟩ (CX10_isPerson l D cI cS cP ad A n σ σ10 r11 p1 hC12) (cwV 1 hts gX10_wits_X10_isPerson rfl rfl rfl (by decide +kernel) ⟨Nat.le_of_ble_eq_true rfl, Nat.le_of_ble_eq_true rfl⟩) (z_preV hN hK hP hD (by decide) zm_0 rfl) rfl rfl hl.1 rfl (lv_room (Nat.le_of_ble_eq_true rfl)) dX10_wits_2 ⟨Nat.zero_le _, Nat.zero_le _⟩) hS (fun H locs hP hD hS => ?_)
  refine lv_if_ne (tgt := 10) hx hb dX10_wits_5 (by decide) (fun b13 => ?_) (fun b13 => ?_)
  · have hF := zif_f b13 hF
    refine lv_aload_n hx hb dX10_wits_10 rfl (lv_at hl 0 rfl) ?_
    refine z_get (ci := 9) (C := RX10) (T := TX10) (N := 32) hx hb hts iX10_wits_X10 hown hK hP (by decide) zm_0 rfl 12 (by decide) kX10_wits_f31 rfl (v := .ref (ad 8)) rfl dX10_wits_11 ?_
    refine lv_iload_n hx hb dX10_wits_14 rfl (lv_at hl 1 rfl) ?_
    obtain ⟨g14, hF⟩ := zgd_inv hF
    refine z_iald hx hb hK hP (by decide) (zm_a (n := 6) (by decide)) rfl g14 dX10_wits_15 ?_
    refine lv_istore_n (lv' := [(2, .int (σ10 8 (p1 : Int32).toNatClampNeg)), (0, .ref (ad 0)), (1, .int p1)]) hx hb dX10_wits_16 rfl hl (by decide) rfl (fun ls hl => ?_)
    refine lv_iconst (v := (0 : Int32)) hx hb dX10_wits_17 (by decide) ?_
    refine lv_istore_n (lv' := [(3, .int (0 : Int32)), (2, .int (σ10 8 (p1 : Int32).toNatClampNeg)), (0, .ref (ad 0)), (1, .int p1)]) hx hb dX10_wits_18 rfl hl (by decide) rfl (fun ls hl => ?_)
    refine lv_iconst (v := (0 : Int32)) hx hb dX10_wits_19 (by decide) ?_
    refine lv_istore (lv' := [(4, .int (0 : Int32)), (3, .int (0 : Int32)), (2, .int (σ10 8 (p1 : Int32).toNatClampNeg)), (0, .ref (ad 0)), (1, .int p1)]) hx hb dX10_wits_20 hl (by decide) rfl (fun ls hl => ?_)
    exact hB22 n σ10 p1 (σ10 8 (p1 : Int32).toNatClampNeg) (0 : Int32) (0 : Int32) _ _ _ hF hP hD hS (lv_sub hl [3, 4, 2, 1, 0] rfl)
  · have hF := zif_t b13 hF
    refine lv_iconst (v := (-1 : Int32)) hx hb dX10_wits_8 (by decide) ?_
    exact z_iret hx hb hr hlocks hN hK hP hD hS hF dX10_wits_9
theorem kX10_kinds_f22 : Cond.fieldLink RX10 22 "LeastAskedModel" "kind" "[I" ∈ wsX10_kinds := by decide +kernel
theorem iX10_kinds_X10 : ∀ w ∈ u_ws RX10 TX10 32, w ∈ wsX10_kinds := fun _ h => List.mem_cons_of_mem _ (List.mem_append_right _ h)
set_option maxHeartbeats 4000000 in
set_option maxRecDepth 100000 in
theorem CX10_kinds (l : Launch) (D : va_G) (cI cS cP : ClassId) (ad : Nat → Nat) (A : Nat → Prop) (n : Nat) (σ σ' : zMem) (r0 : Int32) (p1 : Int32) (hF : FX10_kinds n σ p1 = some (r0, σ')) : Met l yX10_kinds wsX10_kinds ({ frames := 3, cells := 0, slots := 0, locals := 64 } : Room) (va_Pc [.ref (ad 0), .int p1] (zB (zm cI ad) 20 ad D (zty cI cS cP) A σ)) (va_Qi (fun r u => r = r0 ∧ u = σ') (zB (zm cI ad) 20 ad D (zty cI cS cP) A) A) 0 0 A := by
  refine Met.ofW (cc := cX10_kinds) (maxL := 5) (ret := (some .int)) (by decide) rfl ?_
  intro p e s m args below meth c s₁ B hml hv
  obtain ⟨rfl, hP, hK, hD, hN⟩ := hv
  have hx := B.exec
  have hb := B.bytes
  have hr := B.returns
  have hts := atoms_spec (ws := wsX10_kinds) B.pre
  have hown : s.vm.findClass RX10 = some m.cls := findClass_of_methodNamed B.named
  have hlocks := B.notSynchronized
  have hS : va_S A s.heap s.heap [] := va_S.rf
  have hl := lv_entry ([.ref (ad 0), .int p1]) (n := 5) (Nat.le_of_ble_eq_true rfl)
  rw [lg_entry_eq]
  generalize (lg_sl ([.ref (ad 0), .int p1]) ++ List.replicate (5 - (lg_sl ([.ref (ad 0), .int p1])).length) Slot.unset).toArray = ls at hl ⊢
  have hl : lv_has ls 5 [(0, .ref (ad 0)), (1, .int p1)] := hl
  clear B
  have hB22 : ∀ (f22 : Nat) (σ : zMem) (l1 : Int32) (l2 : Int32) (l3 : Int32) (l4 : Int32), ∀ (H : Heap) (locs : List Loc) (ls : Array Slot), zlp (LX10_kinds_22 n) f22 (σ, l1, l2, l3, l4) = some (r0, σ') → va_P D vwCl (zW (zm cI ad) 20 ad σ) H → va_D A (zW (zm cI ad) 20 ad σ) → va_S A s.heap H locs → lv_has ls 5 [(0, .ref (ad 0)), (1, .int l1), (2, .int l2), (3, .int l3), (4, .int l4)] → W p l e (headSpec wsX10_kinds ({ frames := 3, cells := 0, slots := 0, locals := 64 } : Room)).room s m ([.ref (ad 0), .int p1] : List Value).toArray below meth c H locs 0 0 (MQ below (va_Qi (fun r u => r = r0 ∧ u = σ') (zB (zm cI ad) 20 ad D (zty cI cS cP) A) A) ([.ref (ad 0), .int p1] : List Value).toArray s 0 0 A) (F0 m 22 ls []) := by
    intro f22
    induction f22 with
    | zero => intro σ l1 l2 l3 l4 H locs ls hF hP hD hS hl; exact (zlp_0 hF).elim
    | succ f22 ih22 =>
      have hB52 : ∀ (σ : zMem) (l1 : Int32) (l2 : Int32) (l3 : Int32) (l4 : Int32) (s0 : Int32) (s1 : Int32), ∀ (H : Heap) (locs : List Loc) (ls : Array Slot), BX10_kinds_52 n (zlp (LX10_kinds_22 n) f22) σ l1 l2 l3 l4 s0 s1 = some (r0, σ') → va_P D vwCl (zW (zm cI ad) 20 ad σ) H → va_D A (zW (zm cI ad) 20 ad σ) → va_S A s.heap H locs → lv_has ls 5 [(0, .ref (ad 0)), (1, .int l1), (2, .int l2), (3, .int l3), (4, .int l4)] → W p l e (headSpec wsX10_kinds ({ frames := 3, cells := 0, slots := 0, locals := 64 } : Room)).room s m ([.ref (ad 0), .int p1] : List Value).toArray below meth c H locs 0 0 (MQ below (va_Qi (fun r u => r = r0 ∧ u = σ') (zB (zm cI ad) 20 ad D (zty cI cS cP) A) A) ([.ref (ad 0), .int p1] : List Value).toArray s 0 0 A) (F0 m 52 ls [.int s1, .int s0]) := by
        intro σ l1 l2 l3 l4 s0 s1 H locs ls hF hP hD hS hl
        unfold BX10_kinds_52 at hF
        refine lv_ior hx hb dX10_kinds_52 ?_
        refine lv_istore_n (lv' := [(3, .int (s0 ||| s1)), (0, .ref (ad 0)), (1, .int l1), (2, .int l2), (4, .int l4)]) hx hb dX10_kinds_53 rfl hl (by decide) rfl (fun ls hl => ?_)
        refine lv_iinc (v := (l4 + (1 : Int32))) (lv' := [(4, .int (l4 + (1 : Int32))), (3, .int (s0 ||| s1)), (0, .ref (ad 0)), (1, .int l1), (2, .int l2)]) hx hb dX10_kinds_54 hl (k := 4) rfl rfl (by decide) rfl (fun ls hl => ?_)
        refine lv_goto (tgt := 22) hx hb dX10_kinds_57 (by decide) ?_
        exact ih22 σ l1 l2 (s0 ||| s1) (l4 + (1 : Int32)) _ _ _ hF hP hD hS (lv_sub hl [2, 3, 4, 1, 0] rfl)
      intro σ l1 l2 l3 l4 H locs ls hF hP hD hS hl
      have hF : LBX10_kinds_22 n   (zlp (LX10_kinds_22 n) f22) σ l1 l2 l3 l4 = some (r0, σ') := hF
      unfold LBX10_kinds_22 at hF
      refine lv_iload hx hb dX10_kinds_22 (lv_at hl 4 rfl) ?_
      refine lv_iconst (v := (3 : Int32)) hx hb dX10_kinds_24 (by decide) ?_
      refine lv_icmp_ge (tgt := 60) hx hb dX10_kinds_25 (by decide) (fun b1 => ?_) (fun b1 => ?_)
      · have hF := zif_t b1 hF
        refine lv_aload_n hx hb dX10_kinds_60 rfl (lv_at hl 0 rfl) ?_
        refine z_get (ci := 9) (C := RX10) (T := TX10) (N := 32) hx hb hts iX10_kinds_X10 hown hK hP (by decide) zm_0 rfl 9 (by decide) kX10_kinds_f22 rfl (v := .ref (ad 5)) rfl dX10_kinds_61 ?_
        refine lv_iload_n hx hb dX10_kinds_64 rfl (lv_at hl 1 rfl) ?_
        refine lv_iload_n hx hb dX10_kinds_65 rfl (lv_at hl 2 rfl) ?_
        obtain ⟨g2, hF⟩ := zgd_inv hF
        obtain ⟨σ3, eσ3, hF⟩ := zlet_inv hF
        refine z_iast hx hb hK hP hD hS (by decide) (fun _ => (zm_a (n := 6) (by decide))) rfl g2 dX10_kinds_66 (fun H locs hP hD hS => ?_)
        have hP : va_P D vwCl (zW (zm cI ad) 20 ad σ3) H := by rw [eσ3]; exact hP
        have hD : va_D A (zW (zm cI ad) 20 ad σ3) := by rw [eσ3]; exact hD
        refine lv_iload_n hx hb dX10_kinds_67 rfl (lv_at hl 3 rfl) ?_
        exact z_iret hx hb hr hlocks hN hK hP hD hS hF dX10_kinds_68
      · have hF := zif_f b1 hF
        refine lv_aload_n hx hb dX10_kinds_28 rfl (lv_at hl 0 rfl) ?_
        refine z_get (ci := 9) (C := RX10) (T := TX10) (N := 32) hx hb hts iX10_kinds_X10 hown hK hP (by decide) zm_0 rfl 9 (by decide) kX10_kinds_f22 rfl (v := .ref (ad 5)) rfl dX10_kinds_29 ?_
        refine lv_iload_n hx hb dX10_kinds_32 rfl (lv_at hl 1 rfl) ?_
        refine lv_iload hx hb dX10_kinds_33 (lv_at hl 4 rfl) ?_
        obtain ⟨g4, hF⟩ := zgd_inv hF
        obtain ⟨σ5, eσ5, hF⟩ := zlet_inv hF
        refine z_iast hx hb hK hP hD hS (by decide) (fun _ => (zm_a (n := 6) (by decide))) rfl g4 dX10_kinds_35 (fun H locs hP hD hS => ?_)
        have hP : va_P D vwCl (zW (zm cI ad) 20 ad σ5) H := by rw [eσ5]; exact hP
        have hD : va_D A (zW (zm cI ad) 20 ad σ5) := by rw [eσ5]; exact hD
        refine lv_iload_n hx hb dX10_kinds_36 rfl (lv_at hl 3 rfl) ?_
        refine lv_aload_n hx hb dX10_kinds_37 rfl (lv_at hl 0 rfl) ?_
        obtain ⟨r7, σ6, hC8, hF⟩ := zbd_inv hF
        refine z_calli (va_runV (As := []) (rest := [.int l3]) ⟨hx, hb, hml, hown, hts⟩ (CX10_areSo l D cI cS cP ad A n σ5 σ6 r7 hC8) (cwV 0 hts gX10_kinds_X10_areSo rfl rfl rfl (by decide +kernel) ⟨Nat.le_of_ble_eq_true rfl, Nat.le_of_ble_eq_true rfl⟩) (z_preV hN hK hP hD (by decide) zm_0 rfl) rfl rfl hl.1 rfl (lv_room (Nat.le_of_ble_eq_true rfl)) dX10_kinds_38 ⟨Nat.zero_le _, Nat.zero_le _⟩) hS (fun H locs hP hD hS => ?_)
        refine lv_if_eq (tgt := 51) hx hb dX10_kinds_41 (by decide) (fun b9 => ?_) (fun b9 => ?_)
        · have hF := zif_t b9 hF
          refine lv_iconst (v := (0 : Int32)) hx hb dX10_kinds_51 (by decide) ?_
          exact hB52 σ6 l1 l2 l3 l4 l3 (0 : Int32) _ _ _ hF hP hD hS (lv_sub hl [0, 1, 2, 3, 4] rfl)
        · have hF := zif_f b9 hF
          refine lv_iconst (v := (1 : Int32)) hx hb dX10_kinds_44 (by decide) ?_
          refine lv_iload hx hb dX10_kinds_45 (lv_at hl 4 rfl) ?_
          refine lv_ishl hx hb dX10_kinds_47 ?_
          refine lv_goto (tgt := 52) hx hb dX10_kinds_48 (by decide) ?_
          exact hB52 σ6 l1 l2 l3 l4 l3 ((1 : Int32) <<< (l4 &&& 31)) _ _ _ hF hP hD hS (lv_sub hl [0, 1, 2, 3, 4] rfl)
  unfold FX10_kinds at hF
  refine lv_aload_n hx hb dX10_kinds_0 rfl (lv_at hl 0 rfl) ?_
  refine lv_iload_n hx hb dX10_kinds_1 rfl (lv_at hl 1 rfl) ?_
  obtain ⟨r11, σ10, hC12, hF⟩ := zbd_inv hF
  refine z_calli (va_runV (As := [.int p1]) (rest := []) ⟨hx, hb, hml, hown, hts⟩ (CX10_isPerson l D cI cS cP ad A n σ σ10 r11 p1 hC12) (cwV 1 hts gX10_kinds_X10_isPerson rfl rfl rfl (by decide +kernel) ⟨Nat.le_of_ble_eq_true rfl, Nat.le_of_ble_eq_true rfl⟩) (z_preV hN hK hP hD (by decide) zm_0 rfl) rfl rfl hl.1 rfl (lv_room (Nat.le_of_ble_eq_true rfl)) dX10_kinds_2 ⟨Nat.zero_le _, Nat.zero_le _⟩) hS (fun H locs hP hD hS => ?_)
  refine lv_if_ne (tgt := 10) hx hb dX10_kinds_5 (by decide) (fun b13 => ?_) (fun b13 => ?_)
  · have hF := zif_f b13 hF
    refine lv_aload_n hx hb dX10_kinds_10 rfl (lv_at hl 0 rfl) ?_
    refine z_get (ci := 9) (C := RX10) (T := TX10) (N := 32) hx hb hts iX10_kinds_X10 hown hK hP (by decide) zm_0 rfl 9 (by decide) kX10_kinds_f22 rfl (v := .ref (ad 5)) rfl dX10_kinds_11 ?_
    refine lv_iload_n hx hb dX10_kinds_14 rfl (lv_at hl 1 rfl) ?_
    obtain ⟨g14, hF⟩ := zgd_inv hF
    refine z_iald hx hb hK hP (by decide) (zm_a (n := 6) (by decide)) rfl g14 dX10_kinds_15 ?_
    refine lv_istore_n (lv' := [(2, .int (σ10 5 (p1 : Int32).toNatClampNeg)), (0, .ref (ad 0)), (1, .int p1)]) hx hb dX10_kinds_16 rfl hl (by decide) rfl (fun ls hl => ?_)
    refine lv_iconst (v := (0 : Int32)) hx hb dX10_kinds_17 (by decide) ?_
    refine lv_istore_n (lv' := [(3, .int (0 : Int32)), (2, .int (σ10 5 (p1 : Int32).toNatClampNeg)), (0, .ref (ad 0)), (1, .int p1)]) hx hb dX10_kinds_18 rfl hl (by decide) rfl (fun ls hl => ?_)
    refine lv_iconst (v := (0 : Int32)) hx hb dX10_kinds_19 (by decide) ?_
    refine lv_istore (lv' := [(4, .int (0 : Int32)), (3, .int (0 : Int32)), (2, .int (σ10 5 (p1 : Int32).toNatClampNeg)), (0, .ref (ad 0)), (1, .int p1)]) hx hb dX10_kinds_20 hl (by decide) rfl (fun ls hl => ?_)
    exact hB22 n σ10 p1 (σ10 5 (p1 : Int32).toNatClampNeg) (0 : Int32) (0 : Int32) _ _ _ hF hP hD hS (lv_sub hl [3, 4, 2, 1, 0] rfl)
  · have hF := zif_t b13 hF
    refine lv_iconst (v := (-1 : Int32)) hx hb dX10_kinds_8 (by decide) ?_
    exact z_iret hx hb hr hlocks hN hK hP hD hS hF dX10_kinds_9
theorem kX10_worths_f19 : Cond.fieldLink RX10 19 "LeastAskedModel" "worths" "[I" ∈ wsX10_worths := by decide +kernel
theorem iX10_worths_X10 : ∀ w ∈ u_ws RX10 TX10 32, w ∈ wsX10_worths := fun _ h => List.mem_cons_of_mem _ (List.mem_append_right _ h)
set_option maxHeartbeats 4000000 in
set_option maxRecDepth 100000 in
theorem CX10_worths (l : Launch) (D : va_G) (cI cS cP : ClassId) (ad : Nat → Nat) (A : Nat → Prop) (n : Nat) (σ σ' : zMem) (r0 : Int32) (p1 : Int32) (hF : FX10_worths n σ p1 = some (r0, σ')) : Met l yX10_worths wsX10_worths ({ frames := 3, cells := 0, slots := 0, locals := 64 } : Room) (va_Pc [.ref (ad 0), .int p1] (zB (zm cI ad) 20 ad D (zty cI cS cP) A σ)) (va_Qi (fun r u => r = r0 ∧ u = σ') (zB (zm cI ad) 20 ad D (zty cI cS cP) A) A) 0 0 A := by
  refine Met.ofW (cc := cX10_worths) (maxL := 5) (ret := (some .int)) (by decide) rfl ?_
  intro p e s m args below meth c s₁ B hml hv
  obtain ⟨rfl, hP, hK, hD, hN⟩ := hv
  have hx := B.exec
  have hb := B.bytes
  have hr := B.returns
  have hts := atoms_spec (ws := wsX10_worths) B.pre
  have hown : s.vm.findClass RX10 = some m.cls := findClass_of_methodNamed B.named
  have hlocks := B.notSynchronized
  have hS : va_S A s.heap s.heap [] := va_S.rf
  have hl := lv_entry ([.ref (ad 0), .int p1]) (n := 5) (Nat.le_of_ble_eq_true rfl)
  rw [lg_entry_eq]
  generalize (lg_sl ([.ref (ad 0), .int p1]) ++ List.replicate (5 - (lg_sl ([.ref (ad 0), .int p1])).length) Slot.unset).toArray = ls at hl ⊢
  have hl : lv_has ls 5 [(0, .ref (ad 0)), (1, .int p1)] := hl
  clear B
  have hB22 : ∀ (f22 : Nat) (σ : zMem) (l1 : Int32) (l2 : Int32) (l3 : Int32) (l4 : Int32), ∀ (H : Heap) (locs : List Loc) (ls : Array Slot), zlp (LX10_worths_22 n) f22 (σ, l1, l2, l3, l4) = some (r0, σ') → va_P D vwCl (zW (zm cI ad) 20 ad σ) H → va_D A (zW (zm cI ad) 20 ad σ) → va_S A s.heap H locs → lv_has ls 5 [(0, .ref (ad 0)), (1, .int l1), (2, .int l2), (3, .int l3), (4, .int l4)] → W p l e (headSpec wsX10_worths ({ frames := 3, cells := 0, slots := 0, locals := 64 } : Room)).room s m ([.ref (ad 0), .int p1] : List Value).toArray below meth c H locs 0 0 (MQ below (va_Qi (fun r u => r = r0 ∧ u = σ') (zB (zm cI ad) 20 ad D (zty cI cS cP) A) A) ([.ref (ad 0), .int p1] : List Value).toArray s 0 0 A) (F0 m 22 ls []) := by
    intro f22
    induction f22 with
    | zero => intro σ l1 l2 l3 l4 H locs ls hF hP hD hS hl; exact (zlp_0 hF).elim
    | succ f22 ih22 =>
      have hB53 : ∀ (σ : zMem) (l1 : Int32) (l2 : Int32) (l3 : Int32) (l4 : Int32) (s0 : Int32) (s1 : Int32), ∀ (H : Heap) (locs : List Loc) (ls : Array Slot), BX10_worths_53 n (zlp (LX10_worths_22 n) f22) σ l1 l2 l3 l4 s0 s1 = some (r0, σ') → va_P D vwCl (zW (zm cI ad) 20 ad σ) H → va_D A (zW (zm cI ad) 20 ad σ) → va_S A s.heap H locs → lv_has ls 5 [(0, .ref (ad 0)), (1, .int l1), (2, .int l2), (3, .int l3), (4, .int l4)] → W p l e (headSpec wsX10_worths ({ frames := 3, cells := 0, slots := 0, locals := 64 } : Room)).room s m ([.ref (ad 0), .int p1] : List Value).toArray below meth c H locs 0 0 (MQ below (va_Qi (fun r u => r = r0 ∧ u = σ') (zB (zm cI ad) 20 ad D (zty cI cS cP) A) A) ([.ref (ad 0), .int p1] : List Value).toArray s 0 0 A) (F0 m 53 ls [.int s1, .int s0]) := by
        intro σ l1 l2 l3 l4 s0 s1 H locs ls hF hP hD hS hl
        unfold BX10_worths_53 at hF
        refine lv_ior hx hb dX10_worths_53 ?_
        refine lv_istore_n (lv' := [(3, .int (s0 ||| s1)), (0, .ref (ad 0)), (1, .int l1), (2, .int l2), (4, .int l4)]) hx hb dX10_worths_54 rfl hl (by decide) rfl (fun ls hl => ?_)
        refine lv_iinc (v := (l4 + (1 : Int32))) (lv' := [(4, .int (l4 + (1 : Int32))), (3, .int (s0 ||| s1)), (0, .ref (ad 0)), (1, .int l1), (2, .int l2)]) hx hb dX10_worths_55 hl (k := 4) rfl rfl (by decide) rfl (fun ls hl => ?_)
        refine lv_goto (tgt := 22) hx hb dX10_worths_58 (by decide) ?_
        exact ih22 σ l1 l2 (s0 ||| s1) (l4 + (1 : Int32)) _ _ _ hF hP hD hS (lv_sub hl [2, 3, 4, 1, 0] rfl)
      intro σ l1 l2 l3 l4 H locs ls hF hP hD hS hl
      have hF : LBX10_worths_22 n   (zlp (LX10_worths_22 n) f22) σ l1 l2 l3 l4 = some (r0, σ') := hF
      unfold LBX10_worths_22 at hF
      refine lv_iload hx hb dX10_worths_22 (lv_at hl 4 rfl) ?_
      refine lv_bipush (v := (9 : Int32)) hx hb dX10_worths_24 (by decide) ?_
      refine lv_icmp_gt (tgt := 61) hx hb dX10_worths_26 (by decide) (fun b1 => ?_) (fun b1 => ?_)
      · have hF := zif_t b1 hF
        refine lv_aload_n hx hb dX10_worths_61 rfl (lv_at hl 0 rfl) ?_
        refine z_get (ci := 9) (C := RX10) (T := TX10) (N := 32) hx hb hts iX10_worths_X10 hown hK hP (by decide) zm_0 rfl 8 (by decide) kX10_worths_f19 rfl (v := .ref (ad 4)) rfl dX10_worths_62 ?_
        refine lv_iload_n hx hb dX10_worths_65 rfl (lv_at hl 1 rfl) ?_
        refine lv_iload_n hx hb dX10_worths_66 rfl (lv_at hl 2 rfl) ?_
        obtain ⟨g2, hF⟩ := zgd_inv hF
        obtain ⟨σ3, eσ3, hF⟩ := zlet_inv hF
        refine z_iast hx hb hK hP hD hS (by decide) (fun _ => (zm_a (n := 3) (by decide))) rfl g2 dX10_worths_67 (fun H locs hP hD hS => ?_)
        have hP : va_P D vwCl (zW (zm cI ad) 20 ad σ3) H := by rw [eσ3]; exact hP
        have hD : va_D A (zW (zm cI ad) 20 ad σ3) := by rw [eσ3]; exact hD
        refine lv_iload_n hx hb dX10_worths_68 rfl (lv_at hl 3 rfl) ?_
        exact z_iret hx hb hr hlocks hN hK hP hD hS hF dX10_worths_69
      · have hF := zif_f b1 hF
        refine lv_aload_n hx hb dX10_worths_29 rfl (lv_at hl 0 rfl) ?_
        refine z_get (ci := 9) (C := RX10) (T := TX10) (N := 32) hx hb hts iX10_worths_X10 hown hK hP (by decide) zm_0 rfl 8 (by decide) kX10_worths_f19 rfl (v := .ref (ad 4)) rfl dX10_worths_30 ?_
        refine lv_iload_n hx hb dX10_worths_33 rfl (lv_at hl 1 rfl) ?_
        refine lv_iload hx hb dX10_worths_34 (lv_at hl 4 rfl) ?_
        obtain ⟨g4, hF⟩ := zgd_inv hF
        obtain ⟨σ5, eσ5, hF⟩ := zlet_inv hF
        refine z_iast hx hb hK hP hD hS (by decide) (fun _ => (zm_a (n := 3) (by decide))) rfl g4 dX10_worths_36 (fun H locs hP hD hS => ?_)
        have hP : va_P D vwCl (zW (zm cI ad) 20 ad σ5) H := by rw [eσ5]; exact hP
        have hD : va_D A (zW (zm cI ad) 20 ad σ5) := by rw [eσ5]; exact hD
        refine lv_iload_n hx hb dX10_worths_37 rfl (lv_at hl 3 rfl) ?_
        refine lv_aload_n hx hb dX10_worths_38 rfl (lv_at hl 0 rfl) ?_
        obtain ⟨r7, σ6, hC8, hF⟩ := zbd_inv hF
        refine z_calli (va_runV (As := []) (rest := [.int l3]) ⟨hx, hb, hml, hown, hts⟩ (CX10_areSo l D cI cS cP ad A n σ5 σ6 r7 hC8) (cwV 0 hts gX10_worths_X10_areSo rfl rfl rfl (by decide +kernel) ⟨Nat.le_of_ble_eq_true rfl, Nat.le_of_ble_eq_true rfl⟩) (z_preV hN hK hP hD (by decide) zm_0 rfl) rfl rfl hl.1 rfl (lv_room (Nat.le_of_ble_eq_true rfl)) dX10_worths_39 ⟨Nat.zero_le _, Nat.zero_le _⟩) hS (fun H locs hP hD hS => ?_)
        refine lv_if_eq (tgt := 52) hx hb dX10_worths_42 (by decide) (fun b9 => ?_) (fun b9 => ?_)
        · have hF := zif_t b9 hF
          refine lv_iconst (v := (0 : Int32)) hx hb dX10_worths_52 (by decide) ?_
          exact hB53 σ6 l1 l2 l3 l4 l3 (0 : Int32) _ _ _ hF hP hD hS (lv_sub hl [0, 1, 2, 3, 4] rfl)
        · have hF := zif_f b9 hF
          refine lv_iconst (v := (1 : Int32)) hx hb dX10_worths_45 (by decide) ?_
          refine lv_iload hx hb dX10_worths_46 (lv_at hl 4 rfl) ?_
          refine lv_ishl hx hb dX10_worths_48 ?_
          refine lv_goto (tgt := 53) hx hb dX10_worths_49 (by decide) ?_
          exact hB53 σ6 l1 l2 l3 l4 l3 ((1 : Int32) <<< (l4 &&& 31)) _ _ _ hF hP hD hS (lv_sub hl [0, 1, 2, 3, 4] rfl)
  unfold FX10_worths at hF
  refine lv_aload_n hx hb dX10_worths_0 rfl (lv_at hl 0 rfl) ?_
  refine lv_iload_n hx hb dX10_worths_1 rfl (lv_at hl 1 rfl) ?_
  obtain ⟨r11, σ10, hC12, hF⟩ := zbd_inv hF
  refine z_calli (va_runV (As := [.int p1]) (rest := []) ⟨hx, hb, hml, hown, hts⟩ (CX10_isMatter l D cI cS cP ad A n σ σ10 r11 p1 hC12) (cwV 1 hts gX10_worths_X10_isMatter rfl rfl rfl (by decide +kernel) ⟨Nat.le_of_ble_eq_true rfl, Nat.le_of_ble_eq_true rfl⟩) (z_preV hN hK hP hD (by decide) zm_0 rfl) rfl rfl hl.1 rfl (lv_room (Nat.le_of_ble_eq_true rfl)) dX10_worths_2 ⟨Nat.zero_le _, Nat.zero_le _⟩) hS (fun H locs hP hD hS => ?_)
  refine lv_if_ne (tgt := 10) hx hb dX10_worths_5 (by decide) (fun b13 => ?_) (fun b13 => ?_)
  · have hF := zif_f b13 hF
    refine lv_aload_n hx hb dX10_worths_10 rfl (lv_at hl 0 rfl) ?_
    refine z_get (ci := 9) (C := RX10) (T := TX10) (N := 32) hx hb hts iX10_worths_X10 hown hK hP (by decide) zm_0 rfl 8 (by decide) kX10_worths_f19 rfl (v := .ref (ad 4)) rfl dX10_worths_11 ?_
    refine lv_iload_n hx hb dX10_worths_14 rfl (lv_at hl 1 rfl) ?_
    obtain ⟨g14, hF⟩ := zgd_inv hF
    refine z_iald hx hb hK hP (by decide) (zm_a (n := 3) (by decide)) rfl g14 dX10_worths_15 ?_
    refine lv_istore_n (lv' := [(2, .int (σ10 4 (p1 : Int32).toNatClampNeg)), (0, .ref (ad 0)), (1, .int p1)]) hx hb dX10_worths_16 rfl hl (by decide) rfl (fun ls hl => ?_)
    refine lv_iconst (v := (0 : Int32)) hx hb dX10_worths_17 (by decide) ?_
    refine lv_istore_n (lv' := [(3, .int (0 : Int32)), (2, .int (σ10 4 (p1 : Int32).toNatClampNeg)), (0, .ref (ad 0)), (1, .int p1)]) hx hb dX10_worths_18 rfl hl (by decide) rfl (fun ls hl => ?_)
    refine lv_iconst (v := (0 : Int32)) hx hb dX10_worths_19 (by decide) ?_
    refine lv_istore (lv' := [(4, .int (0 : Int32)), (3, .int (0 : Int32)), (2, .int (σ10 4 (p1 : Int32).toNatClampNeg)), (0, .ref (ad 0)), (1, .int p1)]) hx hb dX10_worths_20 hl (by decide) rfl (fun ls hl => ?_)
    exact hB22 n σ10 p1 (σ10 4 (p1 : Int32).toNatClampNeg) (0 : Int32) (0 : Int32) _ _ _ hF hP hD hS (lv_sub hl [3, 4, 2, 1, 0] rfl)
  · have hF := zif_t b13 hF
    refine lv_iconst (v := (-1 : Int32)) hx hb dX10_worths_8 (by decide) ?_
    exact z_iret hx hb hr hlocks hN hK hP hD hS hF dX10_worths_9
set_option maxHeartbeats 4000000 in
set_option maxRecDepth 100000 in
theorem CX10_inLeastTerms (l : Launch) (D : va_G) (cI cS cP : ClassId) (ad : Nat → Nat) (A : Nat → Prop) (n : Nat) (σ σ' : zMem) (r0 : Int64) (p1 : Int64) (p2 : Int64) (p3 : Int32) (hF : FX10_inLeastTerms n σ p1 p2 p3 = some (r0, σ')) : Met l yX10_inLeastTerms wsX10_inLeastTerms ({ frames := 0, cells := 0, slots := 0, locals := 0 } : Room) (va_Pc [.long p1, .long p2, .int p3] (zB (zm cI ad) 20 ad D (zty cI cS cP) A σ)) (va_Ql (fun r u => r = r0 ∧ u = σ') (zB (zm cI ad) 20 ad D (zty cI cS cP) A) A) 0 0 A := by
  refine Met.ofW (cc := cX10_inLeastTerms) (maxL := 11) (ret := (some .long)) (by decide) rfl ?_
  intro p e s m args below meth c s₁ B hml hv
  obtain ⟨rfl, hP, hK, hD, hN⟩ := hv
  have hx := B.exec
  have hb := B.bytes
  have hr := B.returns
  have hts := atoms_spec (ws := wsX10_inLeastTerms) B.pre
  have hown : s.vm.findClass RX10 = some m.cls := findClass_of_methodNamed B.named
  have hlocks := B.notSynchronized
  have hS : va_S A s.heap s.heap [] := va_S.rf
  have hl := lv_entry ([.long p1, .long p2, .int p3]) (n := 11) (Nat.le_of_ble_eq_true rfl)
  rw [lg_entry_eq]
  generalize (lg_sl ([.long p1, .long p2, .int p3]) ++ List.replicate (11 - (lg_sl ([.long p1, .long p2, .int p3])).length) Slot.unset).toArray = ls at hl ⊢
  have hl : lv_has ls 11 [(0, .long p1), (2, .long p2), (4, .int p3)] := hl
  clear B
  have hB6 : ∀ (f6 : Nat) (σ : zMem) (l0 : Int64) (l2 : Int64) (l4 : Int32) (l5 : Int64) (l7 : Int64), ∀ (H : Heap) (locs : List Loc) (ls : Array Slot), zlp (LX10_inLeastTerms_6 n) f6 (σ, l0, l2, l4, l5, l7) = some (r0, σ') → va_P D vwCl (zW (zm cI ad) 20 ad σ) H → va_D A (zW (zm cI ad) 20 ad σ) → va_S A s.heap H locs → lv_has ls 11 [(0, .long l0), (2, .long l2), (4, .int l4), (5, .long l5), (7, .long l7)] → W p l e (headSpec wsX10_inLeastTerms ({ frames := 0, cells := 0, slots := 0, locals := 0 } : Room)).room s m ([.long p1, .long p2, .int p3] : List Value).toArray below meth c H locs 0 0 (MQ below (va_Ql (fun r u => r = r0 ∧ u = σ') (zB (zm cI ad) 20 ad D (zty cI cS cP) A) A) ([.long p1, .long p2, .int p3] : List Value).toArray s 0 0 A) (F0 m 6 ls []) := by
    intro f6
    induction f6 with
    | zero => intro σ l0 l2 l4 l5 l7 H locs ls hF hP hD hS hl; exact (zlp_0 hF).elim
    | succ f6 ih6 =>
      intro σ l0 l2 l4 l5 l7 H locs ls hF hP hD hS hl
      have hF : LBX10_inLeastTerms_6 n   (zlp (LX10_inLeastTerms_6 n) f6) σ l0 l2 l4 l5 l7 = some (r0, σ') := hF
      unfold LBX10_inLeastTerms_6 at hF
      refine lv_lload hx hb dX10_inLeastTerms_6 (lv_at hl 4 rfl) ?_
      refine lv_lconst (v := 0) hx hb dX10_inLeastTerms_8 (by decide) ?_
      refine W.lcmp hx hb dX10_inLeastTerms_9 ?_
      refine lv_if_eq (tgt := 31) hx hb dX10_inLeastTerms_10 (by decide) (fun b1 => ?_) (fun b1 => ?_)
      · have hF := zif_t b1 hF
        refine lv_iload hx hb dX10_inLeastTerms_31 (lv_at hl 2 rfl) ?_
        refine lv_if_ne (tgt := 43) hx hb dX10_inLeastTerms_33 (by decide) (fun b2 => ?_) (fun b2 => ?_)
        · have hF := zif_f b2 hF
          refine lv_lload_n hx hb dX10_inLeastTerms_43 rfl (lv_at hl 1 rfl) ?_
          refine lv_lload hx hb dX10_inLeastTerms_44 (lv_at hl 3 rfl) ?_
          obtain ⟨g3, hF⟩ := zgd_inv hF
          refine lv_ldiv hx hb dX10_inLeastTerms_46 g3 ?_
          exact z_lret hx hb hr hlocks hN hK hP hD hS hF dX10_inLeastTerms_47
        · have hF := zif_t b2 hF
          refine lv_lload_n hx hb dX10_inLeastTerms_36 rfl (lv_at hl 0 rfl) ?_
          refine lv_lload hx hb dX10_inLeastTerms_37 (lv_at hl 3 rfl) ?_
          obtain ⟨g4, hF⟩ := zgd_inv hF
          refine lv_ldiv hx hb dX10_inLeastTerms_39 g4 ?_
          refine lv_goto (tgt := 47) hx hb dX10_inLeastTerms_40 (by decide) ?_
          exact z_lret hx hb hr hlocks hN hK hP hD hS hF dX10_inLeastTerms_47
      · have hF := zif_f b1 hF
        refine lv_lload hx hb dX10_inLeastTerms_13 (lv_at hl 3 rfl) ?_
        refine lv_lload hx hb dX10_inLeastTerms_15 (lv_at hl 4 rfl) ?_
        obtain ⟨g5, hF⟩ := zgd_inv hF
        refine lv_lrem hx hb dX10_inLeastTerms_17 g5 ?_
        refine lv_lstore (lv' := [(9, .long (l5 - l5 / l7 * l7)), (0, .long l0), (2, .long l2), (4, .int l4), (5, .long l5), (7, .long l7)]) hx hb dX10_inLeastTerms_18 hl (by decide) rfl (fun ls hl => ?_)
        refine lv_lload hx hb dX10_inLeastTerms_20 (lv_at hl 5 rfl) ?_
        refine lv_lstore (lv' := [(5, .long l7), (9, .long (l5 - l5 / l7 * l7)), (0, .long l0), (2, .long l2), (4, .int l4), (7, .long l7)]) hx hb dX10_inLeastTerms_22 hl (by decide) rfl (fun ls hl => ?_)
        refine lv_lload hx hb dX10_inLeastTerms_24 (lv_at hl 1 rfl) ?_
        refine lv_lstore (lv' := [(7, .long (l5 - l5 / l7 * l7)), (5, .long l7), (9, .long (l5 - l5 / l7 * l7)), (0, .long l0), (2, .long l2), (4, .int l4)]) hx hb dX10_inLeastTerms_26 hl (by decide) rfl (fun ls hl => ?_)
        refine lv_goto (tgt := 6) hx hb dX10_inLeastTerms_28 (by decide) ?_
        exact ih6 σ l0 l2 l4 l7 (l5 - l5 / l7 * l7) _ _ _ hF hP hD hS (lv_sub hl [3, 4, 5, 1, 0] rfl)
  unfold FX10_inLeastTerms at hF
  refine lv_lload_n hx hb dX10_inLeastTerms_0 rfl (lv_at hl 0 rfl) ?_
  refine lv_lstore (lv' := [(5, .long p1), (0, .long p1), (2, .long p2), (4, .int p3)]) hx hb dX10_inLeastTerms_1 hl (by decide) rfl (fun ls hl => ?_)
  refine lv_lload_n hx hb dX10_inLeastTerms_3 rfl (lv_at hl 2 rfl) ?_
  refine lv_lstore (lv' := [(7, .long p2), (5, .long p1), (0, .long p1), (2, .long p2), (4, .int p3)]) hx hb dX10_inLeastTerms_4 hl (by decide) rfl (fun ls hl => ?_)
  exact hB6 n σ p1 p2 p3 p1 p2 _ _ _ hF hP hD hS (lv_sub hl [2, 3, 4, 1, 0] rfl)
theorem kX10_odds_f28 : Cond.fieldLink RX10 28 "LeastAskedModel" "knows" "[I" ∈ wsX10_odds := by decide +kernel
theorem kX10_odds_L210 : Cond.constantLong RX10 210 (24) ∈ wsX10_odds := by decide +kernel
theorem kX10_odds_L71 : Cond.constantLong RX10 71 (-9223372036854775808) ∈ wsX10_odds := by decide +kernel
theorem iX10_odds_X10 : ∀ w ∈ u_ws RX10 TX10 32, w ∈ wsX10_odds := fun _ h => List.mem_cons_of_mem _ (List.mem_append_right _ h)
set_option maxHeartbeats 4000000 in
set_option maxRecDepth 100000 in
theorem CX10_odds (l : Launch) (D : va_G) (cI cS cP : ClassId) (ad : Nat → Nat) (A : Nat → Prop) (n : Nat) (σ σ' : zMem) (r0 : Int64) (p1 : Int32) (p2 : Int32) (p3 : Int32) (hF : FX10_odds n σ p1 p2 p3 = some (r0, σ')) : Met l yX10_odds wsX10_odds ({ frames := 2, cells := 0, slots := 0, locals := 43 } : Room) (va_Pc [.ref (ad 0), .int p1, .int p2, .int p3] (zB (zm cI ad) 20 ad D (zty cI cS cP) A σ)) (va_Ql (fun r u => r = r0 ∧ u = σ') (zB (zm cI ad) 20 ad D (zty cI cS cP) A) A) 0 0 A := by
  refine Met.ofW (cc := cX10_odds) (maxL := 8) (ret := (some .long)) (by decide) rfl ?_
  intro p e s m args below meth c s₁ B hml hv
  obtain ⟨rfl, hP, hK, hD, hN⟩ := hv
  have hx := B.exec
  have hb := B.bytes
  have hr := B.returns
  have hts := atoms_spec (ws := wsX10_odds) B.pre
  have hown : s.vm.findClass RX10 = some m.cls := findClass_of_methodNamed B.named
  have hlocks := B.notSynchronized
  have hS : va_S A s.heap s.heap [] := va_S.rf
  have hl := lv_entry ([.ref (ad 0), .int p1, .int p2, .int p3]) (n := 8) (Nat.le_of_ble_eq_true rfl)
  rw [lg_entry_eq]
  generalize (lg_sl ([.ref (ad 0), .int p1, .int p2, .int p3]) ++ List.replicate (8 - (lg_sl ([.ref (ad 0), .int p1, .int p2, .int p3])).length) Slot.unset).toArray = ls at hl ⊢
  have hl : lv_has ls 8 [(0, .ref (ad 0)), (1, .int p1), (2, .int p2), (3, .int p3)] := hl
  clear B
  have hB46 : ∀ (f46 : Nat) (σ : zMem) (l1 : Int32) (l2 : Int32) (l3 : Int32) (l4 : Int32) (l5 : Int32) (l6 : Int32), ∀ (H : Heap) (locs : List Loc) (ls : Array Slot), zlp (LX10_odds_46 n) f46 (σ, l1, l2, l3, l4, l5, l6) = some (r0, σ') → va_P D vwCl (zW (zm cI ad) 20 ad σ) H → va_D A (zW (zm cI ad) 20 ad σ) → va_S A s.heap H locs → lv_has ls 8 [(0, .ref (ad 0)), (1, .int l1), (2, .int l2), (3, .int l3), (4, .int l4), (5, .int l5), (6, .int l6)] → W p l e (headSpec wsX10_odds ({ frames := 2, cells := 0, slots := 0, locals := 43 } : Room)).room s m ([.ref (ad 0), .int p1, .int p2, .int p3] : List Value).toArray below meth c H locs 0 0 (MQ below (va_Ql (fun r u => r = r0 ∧ u = σ') (zB (zm cI ad) 20 ad D (zty cI cS cP) A) A) ([.ref (ad 0), .int p1, .int p2, .int p3] : List Value).toArray s 0 0 A) (F0 m 46 ls []) := by
    intro f46
    induction f46 with
    | zero => intro σ l1 l2 l3 l4 l5 l6 H locs ls hF hP hD hS hl; exact (zlp_0 hF).elim
    | succ f46 ih46 =>
      have hB64 : ∀ (f64 : Nat) (σ : zMem) (l1 : Int32) (l2 : Int32) (l3 : Int32) (l4 : Int32) (l5 : Int32) (l6 : Int32) (l7 : Int32), ∀ (H : Heap) (locs : List Loc) (ls : Array Slot), zlp (LX10_odds_64 n (zlp (LX10_odds_46 n) f46)) f64 (σ, l1, l2, l3, l4, l5, l6, l7) = some (r0, σ') → va_P D vwCl (zW (zm cI ad) 20 ad σ) H → va_D A (zW (zm cI ad) 20 ad σ) → va_S A s.heap H locs → lv_has ls 8 [(0, .ref (ad 0)), (1, .int l1), (2, .int l2), (3, .int l3), (4, .int l4), (5, .int l5), (6, .int l6), (7, .int l7)] → W p l e (headSpec wsX10_odds ({ frames := 2, cells := 0, slots := 0, locals := 43 } : Room)).room s m ([.ref (ad 0), .int p1, .int p2, .int p3] : List Value).toArray below meth c H locs 0 0 (MQ below (va_Ql (fun r u => r = r0 ∧ u = σ') (zB (zm cI ad) 20 ad D (zty cI cS cP) A) A) ([.ref (ad 0), .int p1, .int p2, .int p3] : List Value).toArray s 0 0 A) (F0 m 64 ls []) := by
        intro f64
        induction f64 with
        | zero => intro σ l1 l2 l3 l4 l5 l6 l7 H locs ls hF hP hD hS hl; exact (zlp_0 hF).elim
        | succ f64 ih64 =>
          have hB88 : ∀ (σ : zMem) (l1 : Int32) (l2 : Int32) (l3 : Int32) (l4 : Int32) (l5 : Int32) (l6 : Int32) (l7 : Int32) (s0 : Int32) (s1 : Int32), ∀ (H : Heap) (locs : List Loc) (ls : Array Slot), BX10_odds_88 n (zlp (LX10_odds_46 n) f46) (zlp (LX10_odds_64 n (zlp (LX10_odds_46 n) f46)) f64) σ l1 l2 l3 l4 l5 l6 l7 s0 s1 = some (r0, σ') → va_P D vwCl (zW (zm cI ad) 20 ad σ) H → va_D A (zW (zm cI ad) 20 ad σ) → va_S A s.heap H locs → lv_has ls 8 [(0, .ref (ad 0)), (1, .int l1), (2, .int l2), (3, .int l3), (4, .int l4), (5, .int l5), (6, .int l6), (7, .int l7)] → W p l e (headSpec wsX10_odds ({ frames := 2, cells := 0, slots := 0, locals := 43 } : Room)).room s m ([.ref (ad 0), .int p1, .int p2, .int p3] : List Value).toArray below meth c H locs 0 0 (MQ below (va_Ql (fun r u => r = r0 ∧ u = σ') (zB (zm cI ad) 20 ad D (zty cI cS cP) A) A) ([.ref (ad 0), .int p1, .int p2, .int p3] : List Value).toArray s 0 0 A) (F0 m 88 ls [.int s1, .int s0]) := by
            intro σ l1 l2 l3 l4 l5 l6 l7 s0 s1 H locs ls hF hP hD hS hl
            unfold BX10_odds_88 at hF
            refine lv_iadd hx hb dX10_odds_88 ?_
            refine lv_istore (lv' := [(5, .int (s0 + s1)), (0, .ref (ad 0)), (1, .int l1), (2, .int l2), (3, .int l3), (4, .int l4), (6, .int l6), (7, .int l7)]) hx hb dX10_odds_89 hl (by decide) rfl (fun ls hl => ?_)
            refine lv_iinc (v := (l7 + (1 : Int32))) (lv' := [(7, .int (l7 + (1 : Int32))), (5, .int (s0 + s1)), (0, .ref (ad 0)), (1, .int l1), (2, .int l2), (3, .int l3), (4, .int l4), (6, .int l6)]) hx hb dX10_odds_91 hl (k := 7) rfl rfl (by decide) rfl (fun ls hl => ?_)
            refine lv_goto (tgt := 64) hx hb dX10_odds_94 (by decide) ?_
            exact ih64 σ l1 l2 l3 l4 (s0 + s1) l6 (l7 + (1 : Int32)) _ _ _ hF hP hD hS (lv_sub hl [2, 3, 4, 5, 6, 1, 7, 0] rfl)
          intro σ l1 l2 l3 l4 l5 l6 l7 H locs ls hF hP hD hS hl
          have hF : LBX10_odds_64 n  (zlp (LX10_odds_46 n) f46) (zlp (LX10_odds_64 n (zlp (LX10_odds_46 n) f46)) f64) σ l1 l2 l3 l4 l5 l6 l7 = some (r0, σ') := hF
          unfold LBX10_odds_64 at hF
          refine lv_iload hx hb dX10_odds_64 (lv_at hl 7 rfl) ?_
          refine lv_iconst (v := (3 : Int32)) hx hb dX10_odds_66 (by decide) ?_
          refine lv_icmp_ge (tgt := 97) hx hb dX10_odds_67 (by decide) (fun b1 => ?_) (fun b1 => ?_)
          · have hF := zif_t b1 hF
            refine lv_iinc (v := (l6 + (1 : Int32))) (lv' := [(6, .int (l6 + (1 : Int32))), (0, .ref (ad 0)), (1, .int l1), (2, .int l2), (3, .int l3), (4, .int l4), (5, .int l5), (7, .int l7)]) hx hb dX10_odds_97 hl (k := 6) rfl rfl (by decide) rfl (fun ls hl => ?_)
            refine lv_goto (tgt := 46) hx hb dX10_odds_100 (by decide) ?_
            exact ih46 σ l1 l2 l3 l4 l5 (l6 + (1 : Int32)) _ _ _ hF hP hD hS (lv_sub hl [1, 2, 3, 4, 5, 6, 0] rfl)
          · have hF := zif_f b1 hF
            refine lv_iload hx hb dX10_odds_70 (lv_at hl 5 rfl) ?_
            refine lv_aload_n hx hb dX10_odds_72 rfl (lv_at hl 0 rfl) ?_
            refine lv_iload_n hx hb dX10_odds_73 rfl (lv_at hl 1 rfl) ?_
            refine lv_iload hx hb dX10_odds_74 (lv_at hl 7 rfl) ?_
            obtain ⟨r3, σ2, hC4, hF⟩ := zbd_inv hF
            refine z_calli (va_runV (As := [.int l1, .int l7]) (rest := [.int l5]) ⟨hx, hb, hml, hown, hts⟩ (CX10_bringsOf l D cI cS cP ad A n σ σ2 r3 l1 l7 hC4) (cwV 2 hts gX10_odds_X10_bringsOf rfl rfl rfl (by decide +kernel) ⟨Nat.le_of_ble_eq_true rfl, Nat.le_of_ble_eq_true rfl⟩) (z_preV hN hK hP hD (by decide) zm_0 rfl) rfl rfl hl.1 rfl (lv_room (Nat.le_of_ble_eq_true rfl)) dX10_odds_76 ⟨Nat.zero_le _, Nat.zero_le _⟩) hS (fun H locs hP hD hS => ?_)
            refine lv_iload_n hx hb dX10_odds_79 rfl (lv_at hl 2 rfl) ?_
            refine lv_icmp_lt (tgt := 87) hx hb dX10_odds_80 (by decide) (fun b5 => ?_) (fun b5 => ?_)
            · have hF := zif_t b5 hF
              refine lv_iconst (v := (0 : Int32)) hx hb dX10_odds_87 (by decide) ?_
              exact hB88 σ2 l1 l2 l3 l4 l5 l6 l7 l5 (0 : Int32) _ _ _ hF hP hD hS (lv_sub hl [0, 1, 2, 3, 4, 5, 6, 7] rfl)
            · have hF := zif_f b5 hF
              refine lv_iconst (v := (1 : Int32)) hx hb dX10_odds_83 (by decide) ?_
              refine lv_goto (tgt := 88) hx hb dX10_odds_84 (by decide) ?_
              exact hB88 σ2 l1 l2 l3 l4 l5 l6 l7 l5 (1 : Int32) _ _ _ hF hP hD hS (lv_sub hl [0, 1, 2, 3, 4, 5, 6, 7] rfl)
      intro σ l1 l2 l3 l4 l5 l6 H locs ls hF hP hD hS hl
      have hF : LBX10_odds_46 n   (zlp (LX10_odds_46 n) f46) σ l1 l2 l3 l4 l5 l6 = some (r0, σ') := hF
      unfold LBX10_odds_46 at hF
      refine lv_iload hx hb dX10_odds_46 (lv_at hl 6 rfl) ?_
      refine lv_bipush (v := (7 : Int32)) hx hb dX10_odds_48 (by decide) ?_
      refine lv_icmp_gt (tgt := 103) hx hb dX10_odds_50 (by decide) (fun b6 => ?_) (fun b6 => ?_)
      · have hF := zif_t b6 hF
        refine lv_aload_n hx hb dX10_odds_103 rfl (lv_at hl 0 rfl) ?_
        refine z_get (ci := 9) (C := RX10) (T := TX10) (N := 32) hx hb hts iX10_odds_X10 hown hK hP (by decide) zm_0 rfl 11 (by decide) kX10_odds_f28 rfl (v := .ref (ad 7)) rfl dX10_odds_104 ?_
        refine lv_iload_n hx hb dX10_odds_107 rfl (lv_at hl 1 rfl) ?_
        refine lv_iload hx hb dX10_odds_108 (lv_at hl 4 rfl) ?_
        obtain ⟨g7, hF⟩ := zgd_inv hF
        obtain ⟨σ8, eσ8, hF⟩ := zlet_inv hF
        refine z_iast hx hb hK hP hD hS (by decide) (fun _ => (zm_a (n := 6) (by decide))) rfl g7 dX10_odds_110 (fun H locs hP hD hS => ?_)
        have hP : va_P D vwCl (zW (zm cI ad) 20 ad σ8) H := by rw [eσ8]; exact hP
        have hD : va_D A (zW (zm cI ad) 20 ad σ8) := by rw [eσ8]; exact hD
        refine lv_iload hx hb dX10_odds_111 (lv_at hl 5 rfl) ?_
        refine lv_i2l (v := (l5 : Int32).toInt64) hx hb dX10_odds_113 rfl ?_
        refine lv_ldc2 (v := (24 : Int64)) hx hb hown (hts _ kX10_odds_L210) dX10_odds_114 ?_
        refine lv_iload_n hx hb dX10_odds_117 rfl (lv_at hl 3 rfl) ?_
        obtain ⟨r10, σ9, hC11, hF⟩ := zbd_inv hF
        refine z_calll (va_runS (As := [.long (l5 : Int32).toInt64, .long (24 : Int64), .int l3]) (rest := []) ⟨hx, hb, hml, hown, hts⟩ (CX10_inLeastTerms l D cI cS cP ad A n σ8 σ9 r10 (l5 : Int32).toInt64 (24 : Int64) l3 hC11) (va_cwS 3 hts gX10_odds_X10_inLeastTerms rfl rfl rfl (by decide +kernel) ⟨Nat.le_of_ble_eq_true rfl, Nat.le_of_ble_eq_true rfl⟩) (z_preS hN hK hP hD) rfl rfl hl.1 rfl (lv_room (Nat.le_of_ble_eq_true rfl)) dX10_odds_118 ⟨Nat.zero_le _, Nat.zero_le _⟩) hS (fun H locs hP hD hS => ?_)
        exact z_lret hx hb hr hlocks hN hK hP hD hS hF dX10_odds_121
      · have hF := zif_f b6 hF
        refine lv_aload_n hx hb dX10_odds_53 rfl (lv_at hl 0 rfl) ?_
        refine z_get (ci := 9) (C := RX10) (T := TX10) (N := 32) hx hb hts iX10_odds_X10 hown hK hP (by decide) zm_0 rfl 11 (by decide) kX10_odds_f28 rfl (v := .ref (ad 7)) rfl dX10_odds_54 ?_
        refine lv_iload_n hx hb dX10_odds_57 rfl (lv_at hl 1 rfl) ?_
        refine lv_iload hx hb dX10_odds_58 (lv_at hl 6 rfl) ?_
        obtain ⟨g12, hF⟩ := zgd_inv hF
        obtain ⟨σ13, eσ13, hF⟩ := zlet_inv hF
        refine z_iast hx hb hK hP hD hS (by decide) (fun _ => (zm_a (n := 6) (by decide))) rfl g12 dX10_odds_60 (fun H locs hP hD hS => ?_)
        have hP : va_P D vwCl (zW (zm cI ad) 20 ad σ13) H := by rw [eσ13]; exact hP
        have hD : va_D A (zW (zm cI ad) 20 ad σ13) := by rw [eσ13]; exact hD
        refine lv_iconst (v := (0 : Int32)) hx hb dX10_odds_61 (by decide) ?_
        refine lv_istore (lv' := [(7, .int (0 : Int32)), (0, .ref (ad 0)), (1, .int l1), (2, .int l2), (3, .int l3), (4, .int l4), (5, .int l5), (6, .int l6)]) hx hb dX10_odds_62 hl (by decide) rfl (fun ls hl => ?_)
        exact hB64 n σ13 l1 l2 l3 l4 l5 l6 (0 : Int32) _ _ _ hF hP hD hS (lv_sub hl [1, 2, 3, 4, 5, 6, 7, 0] rfl)
  unfold FX10_odds at hF
  refine lv_aload_n hx hb dX10_odds_0 rfl (lv_at hl 0 rfl) ?_
  refine lv_iload_n hx hb dX10_odds_1 rfl (lv_at hl 1 rfl) ?_
  obtain ⟨r15, σ14, hC16, hF⟩ := zbd_inv hF
  refine z_calli (va_runV (As := [.int p1]) (rest := []) ⟨hx, hb, hml, hown, hts⟩ (CX10_isPerson l D cI cS cP ad A n σ σ14 r15 p1 hC16) (cwV 1 hts gX10_odds_X10_isPerson rfl rfl rfl (by decide +kernel) ⟨Nat.le_of_ble_eq_true rfl, Nat.le_of_ble_eq_true rfl⟩) (z_preV hN hK hP hD (by decide) zm_0 rfl) rfl rfl hl.1 rfl (lv_room (Nat.le_of_ble_eq_true rfl)) dX10_odds_2 ⟨Nat.zero_le _, Nat.zero_le _⟩) hS (fun H locs hP hD hS => ?_)
  refine lv_if_eq (tgt := 28) hx hb dX10_odds_5 (by decide) (fun b17 => ?_) (fun b17 => ?_)
  · have hF := zif_t b17 hF
    refine lv_ldc2 (v := (-9223372036854775808 : Int64)) hx hb hown (hts _ kX10_odds_L71) dX10_odds_28 ?_
    exact z_lret hx hb hr hlocks hN hK hP hD hS hF dX10_odds_31
  · have hF := zif_f b17 hF
    refine lv_iload_n hx hb dX10_odds_8 rfl (lv_at hl 2 rfl) ?_
    refine lv_iconst (v := (0 : Int32)) hx hb dX10_odds_9 (by decide) ?_
    refine lv_sipush (v := (200 : Int32)) hx hb dX10_odds_10 (by decide) ?_
    obtain ⟨r19, σ18, hC20, hF⟩ := zbd_inv hF
    refine z_calli (va_runS (As := [.int p2, .int (0 : Int32), .int (200 : Int32)]) (rest := []) ⟨hx, hb, hml, hown, hts⟩ (CX10_within l D cI cS cP ad A n σ14 σ18 r19 p2 (0 : Int32) (200 : Int32) hC20) (va_cwS 3 hts gX10_odds_X10_within rfl rfl rfl (by decide +kernel) ⟨Nat.le_of_ble_eq_true rfl, Nat.le_of_ble_eq_true rfl⟩) (z_preS hN hK hP hD) rfl rfl hl.1 rfl (lv_room (Nat.le_of_ble_eq_true rfl)) dX10_odds_13 ⟨Nat.zero_le _, Nat.zero_le _⟩) hS (fun H locs hP hD hS => ?_)
    refine lv_if_eq (tgt := 28) hx hb dX10_odds_16 (by decide) (fun b21 => ?_) (fun b21 => ?_)
    · have hF := zif_t b21 hF
      refine lv_ldc2 (v := (-9223372036854775808 : Int64)) hx hb hown (hts _ kX10_odds_L71) dX10_odds_28 ?_
      exact z_lret hx hb hr hlocks hN hK hP hD hS hF dX10_odds_31
    · have hF := zif_f b21 hF
      refine lv_iload_n hx hb dX10_odds_19 rfl (lv_at hl 3 rfl) ?_
      refine lv_iconst (v := (0 : Int32)) hx hb dX10_odds_20 (by decide) ?_
      refine lv_iconst (v := (1 : Int32)) hx hb dX10_odds_21 (by decide) ?_
      obtain ⟨r23, σ22, hC24, hF⟩ := zbd_inv hF
      refine z_calli (va_runS (As := [.int p3, .int (0 : Int32), .int (1 : Int32)]) (rest := []) ⟨hx, hb, hml, hown, hts⟩ (CX10_within l D cI cS cP ad A n σ18 σ22 r23 p3 (0 : Int32) (1 : Int32) hC24) (va_cwS 3 hts gX10_odds_X10_within rfl rfl rfl (by decide +kernel) ⟨Nat.le_of_ble_eq_true rfl, Nat.le_of_ble_eq_true rfl⟩) (z_preS hN hK hP hD) rfl rfl hl.1 rfl (lv_room (Nat.le_of_ble_eq_true rfl)) dX10_odds_22 ⟨Nat.zero_le _, Nat.zero_le _⟩) hS (fun H locs hP hD hS => ?_)
      refine lv_if_ne (tgt := 32) hx hb dX10_odds_25 (by decide) (fun b25 => ?_) (fun b25 => ?_)
      · have hF := zif_f b25 hF
        refine lv_aload_n hx hb dX10_odds_32 rfl (lv_at hl 0 rfl) ?_
        refine z_get (ci := 9) (C := RX10) (T := TX10) (N := 32) hx hb hts iX10_odds_X10 hown hK hP (by decide) zm_0 rfl 11 (by decide) kX10_odds_f28 rfl (v := .ref (ad 7)) rfl dX10_odds_33 ?_
        refine lv_iload_n hx hb dX10_odds_36 rfl (lv_at hl 1 rfl) ?_
        obtain ⟨g26, hF⟩ := zgd_inv hF
        refine z_iald hx hb hK hP (by decide) (zm_a (n := 6) (by decide)) rfl g26 dX10_odds_37 ?_
        refine lv_istore (lv' := [(4, .int (σ22 7 (p1 : Int32).toNatClampNeg)), (0, .ref (ad 0)), (1, .int p1), (2, .int p2), (3, .int p3)]) hx hb dX10_odds_38 hl (by decide) rfl (fun ls hl => ?_)
        refine lv_iconst (v := (0 : Int32)) hx hb dX10_odds_40 (by decide) ?_
        refine lv_istore (lv' := [(5, .int (0 : Int32)), (4, .int (σ22 7 (p1 : Int32).toNatClampNeg)), (0, .ref (ad 0)), (1, .int p1), (2, .int p2), (3, .int p3)]) hx hb dX10_odds_41 hl (by decide) rfl (fun ls hl => ?_)
        refine lv_iconst (v := (0 : Int32)) hx hb dX10_odds_43 (by decide) ?_
        refine lv_istore (lv' := [(6, .int (0 : Int32)), (5, .int (0 : Int32)), (4, .int (σ22 7 (p1 : Int32).toNatClampNeg)), (0, .ref (ad 0)), (1, .int p1), (2, .int p2), (3, .int p3)]) hx hb dX10_odds_44 hl (by decide) rfl (fun ls hl => ?_)
        exact hB46 n σ22 p1 p2 p3 (σ22 7 (p1 : Int32).toNatClampNeg) (0 : Int32) (0 : Int32) _ _ _ hF hP hD hS (lv_sub hl [3, 4, 5, 6, 2, 1, 0] rfl)
      · have hF := zif_t b25 hF
        refine lv_ldc2 (v := (-9223372036854775808 : Int64)) hx hb hown (hts _ kX10_odds_L71) dX10_odds_28 ?_
        exact z_lret hx hb hr hlocks hN hK hP hD hS hF dX10_odds_31
