/-! ===== contracts: X10_does, X10_goYear, X10_refusesPair, X10_tellYear, X10_year, X10_register, X10_turn, X10_steer ===== -/
theorem kX10_does_f25 : Cond.fieldLink RX10 25 "LeastAskedModel" "asked" "[I" ∈ wsX10_does := by decide +kernel
theorem kX10_does_f149 : Cond.fieldLink RX10 149 "LeastAskedModel" "yearBrought" "I" ∈ wsX10_does := by decide +kernel
theorem kX10_does_f152 : Cond.fieldLink RX10 152 "LeastAskedModel" "yearAsked" "I" ∈ wsX10_does := by decide +kernel
theorem kX10_does_f155 : Cond.fieldLink RX10 155 "LeastAskedModel" "yearKnown" "I" ∈ wsX10_does := by decide +kernel
theorem kX10_does_f28 : Cond.fieldLink RX10 28 "LeastAskedModel" "knows" "[I" ∈ wsX10_does := by decide +kernel
theorem iX10_does_X10 : ∀ w ∈ u_ws RX10 TX10 32, w ∈ wsX10_does := fun _ h => List.mem_cons_of_mem _ (List.mem_append_right _ h)
set_option maxHeartbeats 4000000 in
set_option maxRecDepth 100000 in
theorem CX10_does (l : Launch) (D : va_G) (cI cS cP : ClassId) (ad : Nat → Nat) (A : Nat → Prop) (n : Nat) (σ σ' : zMem) (r0 : Int32) (p1 : Int32) (p2 : Int32) (hF : FX10_does n σ p1 p2 = some (r0, σ')) : Met l yX10_does wsX10_does ({ frames := 2, cells := 0, slots := 0, locals := 43 } : Room) (va_Pc [.ref (ad 0), .int p1, .int p2] (zB (zm cI ad) 20 ad D (zty cI cS cP) A σ)) (va_Qi (fun r u => r = r0 ∧ u = σ') (zB (zm cI ad) 20 ad D (zty cI cS cP) A) A) 0 0 A := by
  refine Met.ofW (cc := cX10_does) (maxL := 4) (ret := (some .boolean)) (by decide) rfl ?_
  intro p e s m args below meth c s₁ B hml hv
  obtain ⟨rfl, hP, hK, hD, hN⟩ := hv
  have hx := B.exec
  have hb := B.bytes
  have hr := B.returns
  have hts := atoms_spec (ws := wsX10_does) B.pre
  have hown : s.vm.findClass RX10 = some m.cls := findClass_of_methodNamed B.named
  have hlocks := B.notSynchronized
  have hS : va_S A s.heap s.heap [] := va_S.rf
  have hl := lv_entry ([.ref (ad 0), .int p1, .int p2]) (n := 4) (Nat.le_of_ble_eq_true rfl)
  rw [lg_entry_eq]
  generalize (lg_sl ([.ref (ad 0), .int p1, .int p2]) ++ List.replicate (4 - (lg_sl ([.ref (ad 0), .int p1, .int p2])).length) Slot.unset).toArray = ls at hl ⊢
  have hl : lv_has ls 4 [(0, .ref (ad 0)), (1, .int p1), (2, .int p2)] := hl
  clear B
  have hB58 : ∀ (σ : zMem) (l1 : Int32) (l2 : Int32) (l3 : Int32) (s1 : Int32) (s2 : Int32) (s3 : Int32), ∀ (H : Heap) (locs : List Loc) (ls : Array Slot), BX10_does_58 n σ l1 l2 l3 s1 s2 s3 = some (r0, σ') → va_P D vwCl (zW (zm cI ad) 20 ad σ) H → va_D A (zW (zm cI ad) 20 ad σ) → va_S A s.heap H locs → lv_has ls 4 [(0, .ref (ad 0)), (1, .int l1), (2, .int l2), (3, .int l3)] → W p l e (headSpec wsX10_does ({ frames := 2, cells := 0, slots := 0, locals := 43 } : Room)).room s m ([.ref (ad 0), .int p1, .int p2] : List Value).toArray below meth c H locs 0 0 (MQ below (va_Qi (fun r u => r = r0 ∧ u = σ') (zB (zm cI ad) 20 ad D (zty cI cS cP) A) A) ([.ref (ad 0), .int p1, .int p2] : List Value).toArray s 0 0 A) (F0 m 58 ls [.int s3, .int s2, .int s1, .ref (ad 6)]) := by
    intro σ l1 l2 l3 s1 s2 s3 H locs ls hF hP hD hS hl
    unfold BX10_does_58 at hF
    refine lv_iadd hx hb dX10_does_58 ?_
    obtain ⟨g1, hF⟩ := zgd_inv hF
    obtain ⟨σ2, eσ2, hF⟩ := zlet_inv hF
    refine z_iast hx hb hK hP hD hS (by decide) (fun _ => (zm_a (n := 6) (by decide))) rfl g1 dX10_does_59 (fun H locs hP hD hS => ?_)
    have hP : va_P D vwCl (zW (zm cI ad) 20 ad σ2) H := by rw [eσ2]; exact hP
    have hD : va_D A (zW (zm cI ad) 20 ad σ2) := by rw [eσ2]; exact hD
    refine lv_iload_n hx hb dX10_does_60 rfl (lv_at hl 1 rfl) ?_
    refine lv_iload_n hx hb dX10_does_61 rfl (lv_at hl 3 rfl) ?_
    refine lv_icmp_ne (tgt := 69) hx hb dX10_does_62 (by decide) (fun b3 => ?_) (fun b3 => ?_)
    · have hF := zif_f b3 hF
      refine lv_iconst (v := (0 : Int32)) hx hb dX10_does_69 (by decide) ?_
      exact z_zret hx hb hr hlocks (Or.inl rfl) hN hK hP hD hS hF dX10_does_70
    · have hF := zif_t b3 hF
      refine lv_iconst (v := (1 : Int32)) hx hb dX10_does_65 (by decide) ?_
      refine lv_goto (tgt := 70) hx hb dX10_does_66 (by decide) ?_
      exact z_zret hx hb hr hlocks (Or.inr rfl) hN hK hP hD hS hF dX10_does_70
  unfold FX10_does at hF
  refine lv_aload_n hx hb dX10_does_0 rfl (lv_at hl 0 rfl) ?_
  obtain ⟨r5, σ4, hC6, hF⟩ := zbd_inv hF
  refine z_calli (va_runV (As := []) (rest := []) ⟨hx, hb, hml, hown, hts⟩ (CX10_firstOf l D cI cS cP ad A n σ σ4 r5 hC6) (cwV 0 hts gX10_does_X10_firstOf rfl rfl rfl (by decide +kernel) ⟨Nat.le_of_ble_eq_true rfl, Nat.le_of_ble_eq_true rfl⟩) (z_preV hN hK hP hD (by decide) zm_0 rfl) rfl rfl hl.1 rfl (lv_room (Nat.le_of_ble_eq_true rfl)) dX10_does_1 ⟨Nat.zero_le _, Nat.zero_le _⟩) hS (fun H locs hP hD hS => ?_)
  refine lv_istore_n (lv' := [(3, .int r5), (0, .ref (ad 0)), (1, .int p1), (2, .int p2)]) hx hb dX10_does_4 rfl hl (by decide) rfl (fun ls hl => ?_)
  refine lv_iload_n hx hb dX10_does_5 rfl (lv_at hl 3 rfl) ?_
  refine lv_bipush (v := (10 : Int32)) hx hb dX10_does_6 (by decide) ?_
  refine lv_icmp_lt (tgt := 36) hx hb dX10_does_8 (by decide) (fun b7 => ?_) (fun b7 => ?_)
  · have hF := zif_t b7 hF
    refine lv_iload_n hx hb dX10_does_36 rfl (lv_at hl 3 rfl) ?_
    refine lv_iconst (v := (1 : Int32)) hx hb dX10_does_37 (by decide) ?_
    refine lv_icmp_ne (tgt := 71) hx hb dX10_does_38 (by decide) (fun b8 => ?_) (fun b8 => ?_)
    · have hF := zif_f b8 hF
      refine lv_aload_n hx hb dX10_does_71 rfl (lv_at hl 1 rfl) ?_
      refine z_get (ci := 9) (C := RX10) (T := TX10) (N := 32) hx hb hts iX10_does_X10 hown hK hP (by decide) zm_0 rfl 10 (by decide) kX10_does_f25 rfl (v := .ref (ad 6)) rfl dX10_does_72 ?_
      refine lv_iload_n hx hb dX10_does_75 rfl (lv_at hl 0 rfl) ?_
      refine lv_dup2_11 hx hb dX10_does_76 rfl rfl ?_
      obtain ⟨g9, hF⟩ := zgd_inv hF
      refine z_iald hx hb hK hP (by decide) (zm_a (n := 6) (by decide)) rfl g9 dX10_does_77 ?_
      refine lv_iconst (v := (1 : Int32)) hx hb dX10_does_78 (by decide) ?_
      refine lv_iadd hx hb dX10_does_79 ?_
      obtain ⟨g10, hF⟩ := zgd_inv hF
      obtain ⟨σ11, eσ11, hF⟩ := zlet_inv hF
      refine z_iast hx hb hK hP hD hS (by decide) (fun _ => (zm_a (n := 6) (by decide))) rfl g10 dX10_does_80 (fun H locs hP hD hS => ?_)
      have hP : va_P D vwCl (zW (zm cI ad) 20 ad σ11) H := by rw [eσ11]; exact hP
      have hD : va_D A (zW (zm cI ad) 20 ad σ11) := by rw [eσ11]; exact hD
      refine lv_aload_n hx hb dX10_does_81 rfl (lv_at hl 1 rfl) ?_
      refine lv_dup hx hb dX10_does_82 rfl ?_
      refine z_get (ci := 9) (C := RX10) (T := TX10) (N := 32) hx hb hts iX10_does_X10 hown hK hP (by decide) zm_0 rfl 19 (by decide) kX10_does_f149 rfl (v := .int (σ11 0 19)) rfl dX10_does_83 ?_
      refine lv_aload_n hx hb dX10_does_86 rfl (lv_at hl 1 rfl) ?_
      refine lv_iload_n hx hb dX10_does_87 rfl (lv_at hl 0 rfl) ?_
      refine lv_iload_n hx hb dX10_does_88 rfl (lv_at hl 2 rfl) ?_
      obtain ⟨r13, σ12, hC14, hF⟩ := zbd_inv hF
      refine z_calli (va_runV (As := [.int r5, .int p1]) (rest := [.int (σ11 0 19), .ref (ad 0)]) ⟨hx, hb, hml, hown, hts⟩ (CX10_bringsOf l D cI cS cP ad A n σ11 σ12 r13 r5 p1 hC14) (cwV 2 hts gX10_does_X10_bringsOf rfl rfl rfl (by decide +kernel) ⟨Nat.le_of_ble_eq_true rfl, Nat.le_of_ble_eq_true rfl⟩) (z_preV hN hK hP hD (by decide) zm_0 rfl) rfl rfl hl.1 rfl (lv_room (Nat.le_of_ble_eq_true rfl)) dX10_does_89 ⟨Nat.zero_le _, Nat.zero_le _⟩) hS (fun H locs hP hD hS => ?_)
      refine lv_iadd hx hb dX10_does_92 ?_
      obtain ⟨σ15, eσ15, hF⟩ := zlet_inv hF
      refine z_put (ci := 9) (C := RX10) (T := TX10) (N := 32) hx hb hts iX10_does_X10 tyX10 tyX10_ok nmX10 hown hK hP hD hS (by decide) zm_0 rfl 19 (by decide) kX10_does_f149 rfl rfl rfl rfl (Nat.le_of_ble_eq_true rfl) zm_0 dX10_does_93 (fun H locs hP hD hS => ?_)
      have hP : va_P D vwCl (zW (zm cI ad) 20 ad σ15) H := by rw [eσ15]; exact hP
      have hD : va_D A (zW (zm cI ad) 20 ad σ15) := by rw [eσ15]; exact hD
      refine lv_aload_n hx hb dX10_does_96 rfl (lv_at hl 1 rfl) ?_
      refine lv_dup hx hb dX10_does_97 rfl ?_
      refine z_get (ci := 9) (C := RX10) (T := TX10) (N := 32) hx hb hts iX10_does_X10 hown hK hP (by decide) zm_0 rfl 20 (by decide) kX10_does_f152 rfl (v := .int (σ15 0 20)) rfl dX10_does_98 ?_
      refine lv_iconst (v := (1 : Int32)) hx hb dX10_does_101 (by decide) ?_
      refine lv_iload_n hx hb dX10_does_102 rfl (lv_at hl 0 rfl) ?_
      refine lv_ishl hx hb dX10_does_103 ?_
      refine lv_ior hx hb dX10_does_104 ?_
      obtain ⟨σ16, eσ16, hF⟩ := zlet_inv hF
      refine z_put (ci := 9) (C := RX10) (T := TX10) (N := 32) hx hb hts iX10_does_X10 tyX10 tyX10_ok nmX10 hown hK hP hD hS (by decide) zm_0 rfl 20 (by decide) kX10_does_f152 rfl rfl rfl rfl (Nat.le_of_ble_eq_true rfl) zm_0 dX10_does_105 (fun H locs hP hD hS => ?_)
      have hP : va_P D vwCl (zW (zm cI ad) 20 ad σ16) H := by rw [eσ16]; exact hP
      have hD : va_D A (zW (zm cI ad) 20 ad σ16) := by rw [eσ16]; exact hD
      refine lv_aload_n hx hb dX10_does_108 rfl (lv_at hl 1 rfl) ?_
      refine lv_dup hx hb dX10_does_109 rfl ?_
      refine z_get (ci := 9) (C := RX10) (T := TX10) (N := 32) hx hb hts iX10_does_X10 hown hK hP (by decide) zm_0 rfl 21 (by decide) kX10_does_f155 rfl (v := .int (σ16 0 21)) rfl dX10_does_110 ?_
      refine lv_aload_n hx hb dX10_does_113 rfl (lv_at hl 1 rfl) ?_
      refine z_get (ci := 9) (C := RX10) (T := TX10) (N := 32) hx hb hts iX10_does_X10 hown hK hP (by decide) zm_0 rfl 11 (by decide) kX10_does_f28 rfl (v := .ref (ad 7)) rfl dX10_does_114 ?_
      refine lv_iload_n hx hb dX10_does_117 rfl (lv_at hl 0 rfl) ?_
      obtain ⟨g17, hF⟩ := zgd_inv hF
      refine z_iald hx hb hK hP (by decide) (zm_a (n := 6) (by decide)) rfl g17 dX10_does_118 ?_
      refine lv_iload_n hx hb dX10_does_119 rfl (lv_at hl 2 rfl) ?_
      obtain ⟨r19, σ18, hC20, hF⟩ := zbd_inv hF
      refine z_calli (va_runS (As := [.int (σ16 7 (r5 : Int32).toNatClampNeg), .int p1]) (rest := [.int (σ16 0 21), .ref (ad 0)]) ⟨hx, hb, hml, hown, hts⟩ (CX10_isOf l D cI cS cP ad A n σ16 σ18 r19 (σ16 7 (r5 : Int32).toNatClampNeg) p1 hC20) (va_cwS 2 hts gX10_does_X10_isOf rfl rfl rfl (by decide +kernel) ⟨Nat.le_of_ble_eq_true rfl, Nat.le_of_ble_eq_true rfl⟩) (z_preS hN hK hP hD) rfl rfl hl.1 rfl (lv_room (Nat.le_of_ble_eq_true rfl)) dX10_does_120 ⟨Nat.zero_le _, Nat.zero_le _⟩) hS (fun H locs hP hD hS => ?_)
      refine lv_if_eq (tgt := 130) hx hb dX10_does_123 (by decide) (fun b21 => ?_) (fun b21 => ?_)
      · have hF := zif_t b21 hF
        refine lv_iconst (v := (0 : Int32)) hx hb dX10_does_130 (by decide) ?_
        refine lv_iadd hx hb dX10_does_131 ?_
        obtain ⟨σ22, eσ22, hF⟩ := zlet_inv hF
        refine z_put (ci := 9) (C := RX10) (T := TX10) (N := 32) hx hb hts iX10_does_X10 tyX10 tyX10_ok nmX10 hown hK hP hD hS (by decide) zm_0 rfl 21 (by decide) kX10_does_f155 rfl rfl rfl rfl (Nat.le_of_ble_eq_true rfl) zm_0 dX10_does_132 (fun H locs hP hD hS => ?_)
        have hP : va_P D vwCl (zW (zm cI ad) 20 ad σ22) H := by rw [eσ22]; exact hP
        have hD : va_D A (zW (zm cI ad) 20 ad σ22) := by rw [eσ22]; exact hD
        refine lv_iconst (v := (1 : Int32)) hx hb dX10_does_135 (by decide) ?_
        exact z_zret hx hb hr hlocks (Or.inr rfl) hN hK hP hD hS hF dX10_does_136
      · have hF := zif_f b21 hF
        refine lv_iconst (v := (1 : Int32)) hx hb dX10_does_126 (by decide) ?_
        refine lv_goto (tgt := 131) hx hb dX10_does_127 (by decide) ?_
        refine lv_iadd hx hb dX10_does_131 ?_
        obtain ⟨σ23, eσ23, hF⟩ := zlet_inv hF
        refine z_put (ci := 9) (C := RX10) (T := TX10) (N := 32) hx hb hts iX10_does_X10 tyX10 tyX10_ok nmX10 hown hK hP hD hS (by decide) zm_0 rfl 21 (by decide) kX10_does_f155 rfl rfl rfl rfl (Nat.le_of_ble_eq_true rfl) zm_0 dX10_does_132 (fun H locs hP hD hS => ?_)
        have hP : va_P D vwCl (zW (zm cI ad) 20 ad σ23) H := by rw [eσ23]; exact hP
        have hD : va_D A (zW (zm cI ad) 20 ad σ23) := by rw [eσ23]; exact hD
        refine lv_iconst (v := (1 : Int32)) hx hb dX10_does_135 (by decide) ?_
        exact z_zret hx hb hr hlocks (Or.inr rfl) hN hK hP hD hS hF dX10_does_136
    · have hF := zif_t b8 hF
      refine lv_aload_n hx hb dX10_does_41 rfl (lv_at hl 1 rfl) ?_
      refine z_get (ci := 9) (C := RX10) (T := TX10) (N := 32) hx hb hts iX10_does_X10 hown hK hP (by decide) zm_0 rfl 10 (by decide) kX10_does_f25 rfl (v := .ref (ad 6)) rfl dX10_does_42 ?_
      refine lv_iload_n hx hb dX10_does_45 rfl (lv_at hl 0 rfl) ?_
      refine lv_dup2_11 hx hb dX10_does_46 rfl rfl ?_
      obtain ⟨g24, hF⟩ := zgd_inv hF
      refine z_iald hx hb hK hP (by decide) (zm_a (n := 6) (by decide)) rfl g24 dX10_does_47 ?_
      refine lv_iload_n hx hb dX10_does_48 rfl (lv_at hl 2 rfl) ?_
      refine lv_iload_n hx hb dX10_does_49 rfl (lv_at hl 0 rfl) ?_
      refine lv_icmp_ne (tgt := 57) hx hb dX10_does_50 (by decide) (fun b25 => ?_) (fun b25 => ?_)
      · have hF := zif_f b25 hF
        refine lv_iconst (v := (0 : Int32)) hx hb dX10_does_57 (by decide) ?_
        exact hB58 σ4 p1 p2 r5 r5 (σ4 6 (r5 : Int32).toNatClampNeg) (0 : Int32) _ _ _ hF hP hD hS (lv_sub hl [1, 2, 3, 0] rfl)
      · have hF := zif_t b25 hF
        refine lv_iconst (v := (1 : Int32)) hx hb dX10_does_53 (by decide) ?_
        refine lv_goto (tgt := 58) hx hb dX10_does_54 (by decide) ?_
        exact hB58 σ4 p1 p2 r5 r5 (σ4 6 (r5 : Int32).toNatClampNeg) (1 : Int32) _ _ _ hF hP hD hS (lv_sub hl [1, 2, 3, 0] rfl)
  · have hF := zif_f b7 hF
    refine lv_aload_n hx hb dX10_does_11 rfl (lv_at hl 1 rfl) ?_
    refine lv_iload_n hx hb dX10_does_12 rfl (lv_at hl 3 rfl) ?_
    refine lv_bipush (v := (10 : Int32)) hx hb dX10_does_13 (by decide) ?_
    refine lv_isub hx hb dX10_does_15 ?_
    obtain ⟨r27, σ26, hC28, hF⟩ := zbd_inv hF
    refine z_calli (va_runV (As := [.int (p2 - (10 : Int32))]) (rest := []) ⟨hx, hb, hml, hown, hts⟩ (CX10_isPerson l D cI cS cP ad A n σ4 σ26 r27 (p2 - (10 : Int32)) hC28) (cwV 1 hts gX10_does_X10_isPerson rfl rfl rfl (by decide +kernel) ⟨Nat.le_of_ble_eq_true rfl, Nat.le_of_ble_eq_true rfl⟩) (z_preV hN hK hP hD (by decide) zm_0 rfl) rfl rfl hl.1 rfl (lv_room (Nat.le_of_ble_eq_true rfl)) dX10_does_16 ⟨Nat.zero_le _, Nat.zero_le _⟩) hS (fun H locs hP hD hS => ?_)
    refine lv_if_ne (tgt := 24) hx hb dX10_does_19 (by decide) (fun b29 => ?_) (fun b29 => ?_)
    · have hF := zif_f b29 hF
      refine lv_aload_n hx hb dX10_does_24 rfl (lv_at hl 1 rfl) ?_
      refine z_get (ci := 9) (C := RX10) (T := TX10) (N := 32) hx hb hts iX10_does_X10 hown hK hP (by decide) zm_0 rfl 11 (by decide) kX10_does_f28 rfl (v := .ref (ad 7)) rfl dX10_does_25 ?_
      refine lv_iload_n hx hb dX10_does_28 rfl (lv_at hl 3 rfl) ?_
      refine lv_bipush (v := (10 : Int32)) hx hb dX10_does_29 (by decide) ?_
      refine lv_isub hx hb dX10_does_31 ?_
      refine lv_iload_n hx hb dX10_does_32 rfl (lv_at hl 2 rfl) ?_
      obtain ⟨g30, hF⟩ := zgd_inv hF
      obtain ⟨σ31, eσ31, hF⟩ := zlet_inv hF
      refine z_iast hx hb hK hP hD hS (by decide) (fun _ => (zm_a (n := 6) (by decide))) rfl g30 dX10_does_33 (fun H locs hP hD hS => ?_)
      have hP : va_P D vwCl (zW (zm cI ad) 20 ad σ31) H := by rw [eσ31]; exact hP
      have hD : va_D A (zW (zm cI ad) 20 ad σ31) := by rw [eσ31]; exact hD
      refine lv_iconst (v := (1 : Int32)) hx hb dX10_does_34 (by decide) ?_
      exact z_zret hx hb hr hlocks (Or.inr rfl) hN hK hP hD hS hF dX10_does_35
    · have hF := zif_t b29 hF
      refine lv_iconst (v := (0 : Int32)) hx hb dX10_does_22 (by decide) ?_
      exact z_zret hx hb hr hlocks (Or.inl rfl) hN hK hP hD hS hF dX10_does_23
theorem kX10_goYear_f16 : Cond.fieldLink RX10 16 "LeastAskedModel" "cells" "[I" ∈ wsX10_goYear := by decide +kernel
theorem kX10_goYear_f149 : Cond.fieldLink RX10 149 "LeastAskedModel" "yearBrought" "I" ∈ wsX10_goYear := by decide +kernel
theorem kX10_goYear_f152 : Cond.fieldLink RX10 152 "LeastAskedModel" "yearAsked" "I" ∈ wsX10_goYear := by decide +kernel
theorem kX10_goYear_f155 : Cond.fieldLink RX10 155 "LeastAskedModel" "yearKnown" "I" ∈ wsX10_goYear := by decide +kernel
theorem iX10_goYear_X10 : ∀ w ∈ u_ws RX10 TX10 32, w ∈ wsX10_goYear := fun _ h => List.mem_cons_of_mem _ (List.mem_append_right _ h)
set_option maxHeartbeats 4000000 in
set_option maxRecDepth 100000 in
theorem CX10_goYear (l : Launch) (D : va_G) (cI cS cP : ClassId) (ad : Nat → Nat) (A : Nat → Prop) (n : Nat) (σ σ' : zMem) (r0 : Int32) (p1 : Int32) (p2 : Int32) (hF : FX10_goYear n σ p1 p2 = some (r0, σ')) : Met l yX10_goYear wsX10_goYear ({ frames := 3, cells := 0, slots := 0, locals := 66 } : Room) (va_Pc [.ref (ad 0), .int p1, .int p2] (zB (zm cI ad) 20 ad D (zty cI cS cP) A σ)) (va_Qi (fun r u => r = r0 ∧ u = σ') (zB (zm cI ad) 20 ad D (zty cI cS cP) A) A) 0 0 A := by
  refine Met.ofW (cc := cX10_goYear) (maxL := 4) (ret := (some .int)) (by decide) rfl ?_
  intro p e s m args below meth c s₁ B hml hv
  obtain ⟨rfl, hP, hK, hD, hN⟩ := hv
  have hx := B.exec
  have hb := B.bytes
  have hr := B.returns
  have hts := atoms_spec (ws := wsX10_goYear) B.pre
  have hown : s.vm.findClass RX10 = some m.cls := findClass_of_methodNamed B.named
  have hlocks := B.notSynchronized
  have hS : va_S A s.heap s.heap [] := va_S.rf
  have hl := lv_entry ([.ref (ad 0), .int p1, .int p2]) (n := 4) (Nat.le_of_ble_eq_true rfl)
  rw [lg_entry_eq]
  generalize (lg_sl ([.ref (ad 0), .int p1, .int p2]) ++ List.replicate (4 - (lg_sl ([.ref (ad 0), .int p1, .int p2])).length) Slot.unset).toArray = ls at hl ⊢
  have hl : lv_has ls 4 [(0, .ref (ad 0)), (1, .int p1), (2, .int p2)] := hl
  clear B
  have hB17 : ∀ (f17 : Nat) (σ : zMem) (l1 : Int32) (l2 : Int32) (l3 : Int32), ∀ (H : Heap) (locs : List Loc) (ls : Array Slot), zlp (LX10_goYear_17 n) f17 (σ, l1, l2, l3) = some (r0, σ') → va_P D vwCl (zW (zm cI ad) 20 ad σ) H → va_D A (zW (zm cI ad) 20 ad σ) → va_S A s.heap H locs → lv_has ls 4 [(0, .ref (ad 0)), (1, .int l1), (2, .int l2), (3, .int l3)] → W p l e (headSpec wsX10_goYear ({ frames := 3, cells := 0, slots := 0, locals := 66 } : Room)).room s m ([.ref (ad 0), .int p1, .int p2] : List Value).toArray below meth c H locs 0 0 (MQ below (va_Qi (fun r u => r = r0 ∧ u = σ') (zB (zm cI ad) 20 ad D (zty cI cS cP) A) A) ([.ref (ad 0), .int p1, .int p2] : List Value).toArray s 0 0 A) (F0 m 17 ls []) := by
    intro f17
    induction f17 with
    | zero => intro σ l1 l2 l3 H locs ls hF hP hD hS hl; exact (zlp_0 hF).elim
    | succ f17 ih17 =>
      intro σ l1 l2 l3 H locs ls hF hP hD hS hl
      have hF : LBX10_goYear_17 n   (zlp (LX10_goYear_17 n) f17) σ l1 l2 l3 = some (r0, σ') := hF
      unfold LBX10_goYear_17 at hF
      refine lv_iload_n hx hb dX10_goYear_17 rfl (lv_at hl 3 rfl) ?_
      refine lv_iload_n hx hb dX10_goYear_18 rfl (lv_at hl 2 rfl) ?_
      refine lv_icmp_ge (tgt := 59) hx hb dX10_goYear_19 (by decide) (fun b1 => ?_) (fun b1 => ?_)
      · have hF := zif_t b1 hF
        refine lv_bipush (v := (-9 : Int32)) hx hb dX10_goYear_59 (by decide) ?_
        exact z_iret hx hb hr hlocks hN hK hP hD hS hF dX10_goYear_61
      · have hF := zif_f b1 hF
        refine lv_aload_n hx hb dX10_goYear_22 rfl (lv_at hl 0 rfl) ?_
        refine lv_aload_n hx hb dX10_goYear_23 rfl (lv_at hl 0 rfl) ?_
        refine z_get (ci := 9) (C := RX10) (T := TX10) (N := 32) hx hb hts iX10_goYear_X10 hown hK hP (by decide) zm_0 rfl 4 (by decide) kX10_goYear_f16 rfl (v := .ref (ad 3)) rfl dX10_goYear_24 ?_
        refine lv_iload_n hx hb dX10_goYear_27 rfl (lv_at hl 1 rfl) ?_
        refine lv_iconst (v := (2 : Int32)) hx hb dX10_goYear_28 (by decide) ?_
        refine lv_iload_n hx hb dX10_goYear_29 rfl (lv_at hl 3 rfl) ?_
        refine lv_imul hx hb dX10_goYear_30 ?_
        refine lv_iadd hx hb dX10_goYear_31 ?_
        obtain ⟨g2, hF⟩ := zgd_inv hF
        refine z_iald hx hb hK hP (by decide) (zm_a (n := 240) (by decide)) rfl g2 dX10_goYear_32 ?_
        refine lv_aload_n hx hb dX10_goYear_33 rfl (lv_at hl 0 rfl) ?_
        refine z_get (ci := 9) (C := RX10) (T := TX10) (N := 32) hx hb hts iX10_goYear_X10 hown hK hP (by decide) zm_0 rfl 4 (by decide) kX10_goYear_f16 rfl (v := .ref (ad 3)) rfl dX10_goYear_34 ?_
        refine lv_iload_n hx hb dX10_goYear_37 rfl (lv_at hl 1 rfl) ?_
        refine lv_iconst (v := (2 : Int32)) hx hb dX10_goYear_38 (by decide) ?_
        refine lv_iload_n hx hb dX10_goYear_39 rfl (lv_at hl 3 rfl) ?_
        refine lv_imul hx hb dX10_goYear_40 ?_
        refine lv_iadd hx hb dX10_goYear_41 ?_
        refine lv_iconst (v := (1 : Int32)) hx hb dX10_goYear_42 (by decide) ?_
        refine lv_iadd hx hb dX10_goYear_43 ?_
        obtain ⟨g3, hF⟩ := zgd_inv hF
        refine z_iald hx hb hK hP (by decide) (zm_a (n := 240) (by decide)) rfl g3 dX10_goYear_44 ?_
        obtain ⟨r5, σ4, hC6, hF⟩ := zbd_inv hF
        refine z_calli (va_runV (As := [.int (σ 3 ((l1 + ((2 : Int32) * l3)) : Int32).toNatClampNeg), .int (σ 3 (((l1 + ((2 : Int32) * l3)) + (1 : Int32)) : Int32).toNatClampNeg)]) (rest := []) ⟨hx, hb, hml, hown, hts⟩ (CX10_does l D cI cS cP ad A n σ σ4 r5 (σ 3 ((l1 + ((2 : Int32) * l3)) : Int32).toNatClampNeg) (σ 3 (((l1 + ((2 : Int32) * l3)) + (1 : Int32)) : Int32).toNatClampNeg) hC6) (cwV 2 hts gX10_goYear_X10_does rfl rfl rfl (by decide +kernel) ⟨Nat.le_of_ble_eq_true rfl, Nat.le_of_ble_eq_true rfl⟩) (z_preV hN hK hP hD (by decide) zm_0 rfl) rfl rfl hl.1 rfl (lv_room (Nat.le_of_ble_eq_true rfl)) dX10_goYear_45 ⟨Nat.zero_le _, Nat.zero_le _⟩) hS (fun H locs hP hD hS => ?_)
        refine lv_if_ne (tgt := 53) hx hb dX10_goYear_48 (by decide) (fun b7 => ?_) (fun b7 => ?_)
        · have hF := zif_f b7 hF
          refine lv_iinc (v := (l3 + (1 : Int32))) (lv' := [(3, .int (l3 + (1 : Int32))), (0, .ref (ad 0)), (1, .int l1), (2, .int l2)]) hx hb dX10_goYear_53 hl (k := 3) rfl rfl (by decide) rfl (fun ls hl => ?_)
          refine lv_goto (tgt := 17) hx hb dX10_goYear_56 (by decide) ?_
          exact ih17 σ4 l1 l2 (l3 + (1 : Int32)) _ _ _ hF hP hD hS (lv_sub hl [1, 2, 3, 0] rfl)
        · have hF := zif_t b7 hF
          refine lv_iload_n hx hb dX10_goYear_51 rfl (lv_at hl 3 rfl) ?_
          exact z_iret hx hb hr hlocks hN hK hP hD hS hF dX10_goYear_52
  unfold FX10_goYear at hF
  refine lv_aload_n hx hb dX10_goYear_0 rfl (lv_at hl 0 rfl) ?_
  refine lv_iconst (v := (0 : Int32)) hx hb dX10_goYear_1 (by decide) ?_
  obtain ⟨σ8, eσ8, hF⟩ := zlet_inv hF
  refine z_put (ci := 9) (C := RX10) (T := TX10) (N := 32) hx hb hts iX10_goYear_X10 tyX10 tyX10_ok nmX10 hown hK hP hD hS (by decide) zm_0 rfl 19 (by decide) kX10_goYear_f149 rfl rfl rfl rfl (Nat.le_of_ble_eq_true rfl) zm_0 dX10_goYear_2 (fun H locs hP hD hS => ?_)
  have hP : va_P D vwCl (zW (zm cI ad) 20 ad σ8) H := by rw [eσ8]; exact hP
  have hD : va_D A (zW (zm cI ad) 20 ad σ8) := by rw [eσ8]; exact hD
  refine lv_aload_n hx hb dX10_goYear_5 rfl (lv_at hl 0 rfl) ?_
  refine lv_iconst (v := (0 : Int32)) hx hb dX10_goYear_6 (by decide) ?_
  obtain ⟨σ9, eσ9, hF⟩ := zlet_inv hF
  refine z_put (ci := 9) (C := RX10) (T := TX10) (N := 32) hx hb hts iX10_goYear_X10 tyX10 tyX10_ok nmX10 hown hK hP hD hS (by decide) zm_0 rfl 20 (by decide) kX10_goYear_f152 rfl rfl rfl rfl (Nat.le_of_ble_eq_true rfl) zm_0 dX10_goYear_7 (fun H locs hP hD hS => ?_)
  have hP : va_P D vwCl (zW (zm cI ad) 20 ad σ9) H := by rw [eσ9]; exact hP
  have hD : va_D A (zW (zm cI ad) 20 ad σ9) := by rw [eσ9]; exact hD
  refine lv_aload_n hx hb dX10_goYear_10 rfl (lv_at hl 0 rfl) ?_
  refine lv_iconst (v := (0 : Int32)) hx hb dX10_goYear_11 (by decide) ?_
  obtain ⟨σ10, eσ10, hF⟩ := zlet_inv hF
  refine z_put (ci := 9) (C := RX10) (T := TX10) (N := 32) hx hb hts iX10_goYear_X10 tyX10 tyX10_ok nmX10 hown hK hP hD hS (by decide) zm_0 rfl 21 (by decide) kX10_goYear_f155 rfl rfl rfl rfl (Nat.le_of_ble_eq_true rfl) zm_0 dX10_goYear_12 (fun H locs hP hD hS => ?_)
  have hP : va_P D vwCl (zW (zm cI ad) 20 ad σ10) H := by rw [eσ10]; exact hP
  have hD : va_D A (zW (zm cI ad) 20 ad σ10) := by rw [eσ10]; exact hD
  refine lv_iconst (v := (0 : Int32)) hx hb dX10_goYear_15 (by decide) ?_
  refine lv_istore_n (lv' := [(3, .int (0 : Int32)), (0, .ref (ad 0)), (1, .int p1), (2, .int p2)]) hx hb dX10_goYear_16 rfl hl (by decide) rfl (fun ls hl => ?_)
  exact hB17 n σ10 p1 p2 (0 : Int32) _ _ _ hF hP hD hS (lv_sub hl [1, 2, 3, 0] rfl)
set_option maxHeartbeats 4000000 in
set_option maxRecDepth 100000 in
theorem CX10_refusesPair (l : Launch) (D : va_G) (cI cS cP : ClassId) (ad : Nat → Nat) (A : Nat → Prop) (n : Nat) (σ σ' : zMem) (r0 : Int32) (p1 : Int32) (p2 : Int32) (hF : FX10_refusesPair n σ p1 p2 = some (r0, σ')) : Met l yX10_refusesPair wsX10_refusesPair ({ frames := 1, cells := 0, slots := 0, locals := 22 } : Room) (va_Pc [.ref (ad 0), .int p1, .int p2] (zB (zm cI ad) 20 ad D (zty cI cS cP) A σ)) (va_Qi (fun r u => r = r0 ∧ u = σ') (zB (zm cI ad) 20 ad D (zty cI cS cP) A) A) 0 0 A := by
  refine Met.ofW (cc := cX10_refusesPair) (maxL := 5) (ret := (some .int)) (by decide) rfl ?_
  intro p e s m args below meth c s₁ B hml hv
  obtain ⟨rfl, hP, hK, hD, hN⟩ := hv
  have hx := B.exec
  have hb := B.bytes
  have hr := B.returns
  have hts := atoms_spec (ws := wsX10_refusesPair) B.pre
  have hown : s.vm.findClass RX10 = some m.cls := findClass_of_methodNamed B.named
  have hlocks := B.notSynchronized
  have hS : va_S A s.heap s.heap [] := va_S.rf
  have hl := lv_entry ([.ref (ad 0), .int p1, .int p2]) (n := 5) (Nat.le_of_ble_eq_true rfl)
  rw [lg_entry_eq]
  generalize (lg_sl ([.ref (ad 0), .int p1, .int p2]) ++ List.replicate (5 - (lg_sl ([.ref (ad 0), .int p1, .int p2])).length) Slot.unset).toArray = ls at hl ⊢
  have hl : lv_has ls 5 [(0, .ref (ad 0)), (1, .int p1), (2, .int p2)] := hl
  clear B
  have hB73 : ∀ (σ : zMem) (l1 : Int32) (l2 : Int32) (l3 : Int32) (s0 : Int32), ∀ (H : Heap) (locs : List Loc) (ls : Array Slot), BX10_refusesPair_73 n σ l1 l2 l3 s0 = some (r0, σ') → va_P D vwCl (zW (zm cI ad) 20 ad σ) H → va_D A (zW (zm cI ad) 20 ad σ) → va_S A s.heap H locs → lv_has ls 5 [(0, .ref (ad 0)), (1, .int l1), (2, .int l2), (3, .int l3)] → W p l e (headSpec wsX10_refusesPair ({ frames := 1, cells := 0, slots := 0, locals := 22 } : Room)).room s m ([.ref (ad 0), .int p1, .int p2] : List Value).toArray below meth c H locs 0 0 (MQ below (va_Qi (fun r u => r = r0 ∧ u = σ') (zB (zm cI ad) 20 ad D (zty cI cS cP) A) A) ([.ref (ad 0), .int p1, .int p2] : List Value).toArray s 0 0 A) (F0 m 73 ls [.int s0]) := by
    intro σ l1 l2 l3 s0 H locs ls hF hP hD hS hl
    unfold BX10_refusesPair_73 at hF
    refine lv_istore (lv' := [(4, .int s0), (0, .ref (ad 0)), (1, .int l1), (2, .int l2), (3, .int l3)]) hx hb dX10_refusesPair_73 hl (by decide) rfl (fun ls hl => ?_)
    refine lv_iload hx hb dX10_refusesPair_75 (lv_at hl 0 rfl) ?_
    refine lv_if_eq (tgt := 84) hx hb dX10_refusesPair_77 (by decide) (fun b1 => ?_) (fun b1 => ?_)
    · have hF := zif_t b1 hF
      refine lv_iconst (v := (-1 : Int32)) hx hb dX10_refusesPair_84 (by decide) ?_
      exact z_iret hx hb hr hlocks hN hK hP hD hS hF dX10_refusesPair_85
    · have hF := zif_f b1 hF
      refine lv_iconst (v := (0 : Int32)) hx hb dX10_refusesPair_80 (by decide) ?_
      refine lv_goto (tgt := 85) hx hb dX10_refusesPair_81 (by decide) ?_
      exact z_iret hx hb hr hlocks hN hK hP hD hS hF dX10_refusesPair_85
  have hB72 : ∀ (σ : zMem) (l1 : Int32) (l2 : Int32) (l3 : Int32), ∀ (H : Heap) (locs : List Loc) (ls : Array Slot), BX10_refusesPair_72 n σ l1 l2 l3 = some (r0, σ') → va_P D vwCl (zW (zm cI ad) 20 ad σ) H → va_D A (zW (zm cI ad) 20 ad σ) → va_S A s.heap H locs → lv_has ls 5 [(0, .ref (ad 0)), (1, .int l1), (2, .int l2), (3, .int l3)] → W p l e (headSpec wsX10_refusesPair ({ frames := 1, cells := 0, slots := 0, locals := 22 } : Room)).room s m ([.ref (ad 0), .int p1, .int p2] : List Value).toArray below meth c H locs 0 0 (MQ below (va_Qi (fun r u => r = r0 ∧ u = σ') (zB (zm cI ad) 20 ad D (zty cI cS cP) A) A) ([.ref (ad 0), .int p1, .int p2] : List Value).toArray s 0 0 A) (F0 m 72 ls []) := by
    intro σ l1 l2 l3 H locs ls hF hP hD hS hl
    unfold BX10_refusesPair_72 at hF
    refine lv_iconst (v := (0 : Int32)) hx hb dX10_refusesPair_72 (by decide) ?_
    exact hB73 σ l1 l2 l3 (0 : Int32) _ _ _ hF hP hD hS (lv_sub hl [0, 1, 2, 3] rfl)
  have hB68 : ∀ (σ : zMem) (l1 : Int32) (l2 : Int32) (l3 : Int32), ∀ (H : Heap) (locs : List Loc) (ls : Array Slot), BX10_refusesPair_68 n σ l1 l2 l3 = some (r0, σ') → va_P D vwCl (zW (zm cI ad) 20 ad σ) H → va_D A (zW (zm cI ad) 20 ad σ) → va_S A s.heap H locs → lv_has ls 5 [(0, .ref (ad 0)), (1, .int l1), (2, .int l2), (3, .int l3)] → W p l e (headSpec wsX10_refusesPair ({ frames := 1, cells := 0, slots := 0, locals := 22 } : Room)).room s m ([.ref (ad 0), .int p1, .int p2] : List Value).toArray below meth c H locs 0 0 (MQ below (va_Qi (fun r u => r = r0 ∧ u = σ') (zB (zm cI ad) 20 ad D (zty cI cS cP) A) A) ([.ref (ad 0), .int p1, .int p2] : List Value).toArray s 0 0 A) (F0 m 68 ls []) := by
    intro σ l1 l2 l3 H locs ls hF hP hD hS hl
    unfold BX10_refusesPair_68 at hF
    refine lv_iconst (v := (1 : Int32)) hx hb dX10_refusesPair_68 (by decide) ?_
    refine lv_goto (tgt := 73) hx hb dX10_refusesPair_69 (by decide) ?_
    exact hB73 σ l1 l2 l3 (1 : Int32) _ _ _ hF hP hD hS (lv_sub hl [0, 1, 2, 3] rfl)
  have hB55 : ∀ (σ : zMem) (l1 : Int32) (l2 : Int32) (l3 : Int32), ∀ (H : Heap) (locs : List Loc) (ls : Array Slot), BX10_refusesPair_55 n σ l1 l2 l3 = some (r0, σ') → va_P D vwCl (zW (zm cI ad) 20 ad σ) H → va_D A (zW (zm cI ad) 20 ad σ) → va_S A s.heap H locs → lv_has ls 5 [(0, .ref (ad 0)), (1, .int l1), (2, .int l2), (3, .int l3)] → W p l e (headSpec wsX10_refusesPair ({ frames := 1, cells := 0, slots := 0, locals := 22 } : Room)).room s m ([.ref (ad 0), .int p1, .int p2] : List Value).toArray below meth c H locs 0 0 (MQ below (va_Qi (fun r u => r = r0 ∧ u = σ') (zB (zm cI ad) 20 ad D (zty cI cS cP) A) A) ([.ref (ad 0), .int p1, .int p2] : List Value).toArray s 0 0 A) (F0 m 55 ls []) := by
    intro σ l1 l2 l3 H locs ls hF hP hD hS hl
    unfold BX10_refusesPair_55 at hF
    refine lv_iload_n hx hb dX10_refusesPair_55 rfl (lv_at hl 2 rfl) ?_
    refine lv_iconst (v := (1 : Int32)) hx hb dX10_refusesPair_56 (by decide) ?_
    refine lv_icmp_ne (tgt := 72) hx hb dX10_refusesPair_57 (by decide) (fun b2 => ?_) (fun b2 => ?_)
    · have hF := zif_f b2 hF
      exact hB72 σ l1 l2 l3 _ _ _ hF hP hD hS (lv_sub hl [0, 1, 2, 3] rfl)
    · have hF := zif_t b2 hF
      refine lv_aload_n hx hb dX10_refusesPair_60 rfl (lv_at hl 0 rfl) ?_
      refine lv_iload_n hx hb dX10_refusesPair_61 rfl (lv_at hl 1 rfl) ?_
      obtain ⟨r4, σ3, hC5, hF⟩ := zbd_inv hF
      refine z_calli (va_runV (As := [.int l1]) (rest := []) ⟨hx, hb, hml, hown, hts⟩ (CX10_isPerson l D cI cS cP ad A n σ σ3 r4 l1 hC5) (cwV 1 hts gX10_refusesPair_X10_isPerson rfl rfl rfl (by decide +kernel) ⟨Nat.le_of_ble_eq_true rfl, Nat.le_of_ble_eq_true rfl⟩) (z_preV hN hK hP hD (by decide) zm_0 rfl) rfl rfl hl.1 rfl (lv_room (Nat.le_of_ble_eq_true rfl)) dX10_refusesPair_62 ⟨Nat.zero_le _, Nat.zero_le _⟩) hS (fun H locs hP hD hS => ?_)
      refine lv_if_eq (tgt := 72) hx hb dX10_refusesPair_65 (by decide) (fun b6 => ?_) (fun b6 => ?_)
      · have hF := zif_t b6 hF
        exact hB72 σ3 l1 l2 l3 _ _ _ hF hP hD hS (lv_sub hl [0, 1, 2, 3] rfl)
      · have hF := zif_f b6 hF
        exact hB68 σ3 l1 l2 l3 _ _ _ hF hP hD hS (lv_sub hl [0, 1, 2, 3] rfl)
  have hB39 : ∀ (σ : zMem) (l1 : Int32) (l2 : Int32) (l3 : Int32), ∀ (H : Heap) (locs : List Loc) (ls : Array Slot), BX10_refusesPair_39 n σ l1 l2 l3 = some (r0, σ') → va_P D vwCl (zW (zm cI ad) 20 ad σ) H → va_D A (zW (zm cI ad) 20 ad σ) → va_S A s.heap H locs → lv_has ls 5 [(0, .ref (ad 0)), (1, .int l1), (2, .int l2), (3, .int l3)] → W p l e (headSpec wsX10_refusesPair ({ frames := 1, cells := 0, slots := 0, locals := 22 } : Room)).room s m ([.ref (ad 0), .int p1, .int p2] : List Value).toArray below meth c H locs 0 0 (MQ below (va_Qi (fun r u => r = r0 ∧ u = σ') (zB (zm cI ad) 20 ad D (zty cI cS cP) A) A) ([.ref (ad 0), .int p1, .int p2] : List Value).toArray s 0 0 A) (F0 m 39 ls []) := by
    intro σ l1 l2 l3 H locs ls hF hP hD hS hl
    unfold BX10_refusesPair_39 at hF
    refine lv_iload_n hx hb dX10_refusesPair_39 rfl (lv_at hl 3 rfl) ?_
    refine lv_if_ne (tgt := 68) hx hb dX10_refusesPair_40 (by decide) (fun b7 => ?_) (fun b7 => ?_)
    · have hF := zif_f b7 hF
      exact hB68 σ l1 l2 l3 _ _ _ hF hP hD hS (lv_sub hl [0, 1, 2, 3] rfl)
    · have hF := zif_t b7 hF
      refine lv_iload_n hx hb dX10_refusesPair_43 rfl (lv_at hl 2 rfl) ?_
      refine lv_if_ne (tgt := 55) hx hb dX10_refusesPair_44 (by decide) (fun b8 => ?_) (fun b8 => ?_)
      · have hF := zif_f b8 hF
        exact hB55 σ l1 l2 l3 _ _ _ hF hP hD hS (lv_sub hl [0, 1, 2, 3] rfl)
      · have hF := zif_t b8 hF
        refine lv_aload_n hx hb dX10_refusesPair_47 rfl (lv_at hl 0 rfl) ?_
        refine lv_iload_n hx hb dX10_refusesPair_48 rfl (lv_at hl 1 rfl) ?_
        obtain ⟨r10, σ9, hC11, hF⟩ := zbd_inv hF
        refine z_calli (va_runV (As := [.int l1]) (rest := []) ⟨hx, hb, hml, hown, hts⟩ (CX10_isMatter l D cI cS cP ad A n σ σ9 r10 l1 hC11) (cwV 1 hts gX10_refusesPair_X10_isMatter rfl rfl rfl (by decide +kernel) ⟨Nat.le_of_ble_eq_true rfl, Nat.le_of_ble_eq_true rfl⟩) (z_preV hN hK hP hD (by decide) zm_0 rfl) rfl rfl hl.1 rfl (lv_room (Nat.le_of_ble_eq_true rfl)) dX10_refusesPair_49 ⟨Nat.zero_le _, Nat.zero_le _⟩) hS (fun H locs hP hD hS => ?_)
        refine lv_if_ne (tgt := 68) hx hb dX10_refusesPair_52 (by decide) (fun b12 => ?_) (fun b12 => ?_)
        · have hF := zif_f b12 hF
          exact hB68 σ9 l1 l2 l3 _ _ _ hF hP hD hS (lv_sub hl [0, 1, 2, 3] rfl)
        · have hF := zif_t b12 hF
          exact hB55 σ9 l1 l2 l3 _ _ _ hF hP hD hS (lv_sub hl [0, 1, 2, 3] rfl)
  have hB22 : ∀ (σ : zMem) (l1 : Int32) (l2 : Int32) (l3 : Int32), ∀ (H : Heap) (locs : List Loc) (ls : Array Slot), BX10_refusesPair_22 n σ l1 l2 l3 = some (r0, σ') → va_P D vwCl (zW (zm cI ad) 20 ad σ) H → va_D A (zW (zm cI ad) 20 ad σ) → va_S A s.heap H locs → lv_has ls 5 [(0, .ref (ad 0)), (1, .int l1), (2, .int l2), (3, .int l3)] → W p l e (headSpec wsX10_refusesPair ({ frames := 1, cells := 0, slots := 0, locals := 22 } : Room)).room s m ([.ref (ad 0), .int p1, .int p2] : List Value).toArray below meth c H locs 0 0 (MQ below (va_Qi (fun r u => r = r0 ∧ u = σ') (zB (zm cI ad) 20 ad D (zty cI cS cP) A) A) ([.ref (ad 0), .int p1, .int p2] : List Value).toArray s 0 0 A) (F0 m 22 ls []) := by
    intro σ l1 l2 l3 H locs ls hF hP hD hS hl
    unfold BX10_refusesPair_22 at hF
    refine lv_iload_n hx hb dX10_refusesPair_22 rfl (lv_at hl 3 rfl) ?_
    refine lv_if_eq (tgt := 39) hx hb dX10_refusesPair_23 (by decide) (fun b13 => ?_) (fun b13 => ?_)
    · have hF := zif_t b13 hF
      exact hB39 σ l1 l2 l3 _ _ _ hF hP hD hS (lv_sub hl [0, 1, 2, 3] rfl)
    · have hF := zif_f b13 hF
      refine lv_iload_n hx hb dX10_refusesPair_26 rfl (lv_at hl 1 rfl) ?_
      refine lv_iconst (v := (0 : Int32)) hx hb dX10_refusesPair_27 (by decide) ?_
      refine lv_bipush (v := (7 : Int32)) hx hb dX10_refusesPair_28 (by decide) ?_
      obtain ⟨r15, σ14, hC16, hF⟩ := zbd_inv hF
      refine z_calli (va_runS (As := [.int l1, .int (0 : Int32), .int (7 : Int32)]) (rest := []) ⟨hx, hb, hml, hown, hts⟩ (CX10_within l D cI cS cP ad A n σ σ14 r15 l1 (0 : Int32) (7 : Int32) hC16) (va_cwS 3 hts gX10_refusesPair_X10_within rfl rfl rfl (by decide +kernel) ⟨Nat.le_of_ble_eq_true rfl, Nat.le_of_ble_eq_true rfl⟩) (z_preS hN hK hP hD) rfl rfl hl.1 rfl (lv_room (Nat.le_of_ble_eq_true rfl)) dX10_refusesPair_30 ⟨Nat.zero_le _, Nat.zero_le _⟩) hS (fun H locs hP hD hS => ?_)
      refine lv_if_ne (tgt := 39) hx hb dX10_refusesPair_33 (by decide) (fun b17 => ?_) (fun b17 => ?_)
      · have hF := zif_f b17 hF
        exact hB39 σ14 l1 l2 l3 _ _ _ hF hP hD hS (lv_sub hl [0, 1, 2, 3] rfl)
      · have hF := zif_t b17 hF
        refine lv_bipush (v := (-2 : Int32)) hx hb dX10_refusesPair_36 (by decide) ?_
        exact z_iret hx hb hr hlocks hN hK hP hD hS hF dX10_refusesPair_38
  unfold FX10_refusesPair at hF
  refine lv_iload_n hx hb dX10_refusesPair_0 rfl (lv_at hl 2 rfl) ?_
  refine lv_bipush (v := (10 : Int32)) hx hb dX10_refusesPair_1 (by decide) ?_
  refine lv_bipush (v := (15 : Int32)) hx hb dX10_refusesPair_3 (by decide) ?_
  obtain ⟨r19, σ18, hC20, hF⟩ := zbd_inv hF
  refine z_calli (va_runS (As := [.int p2, .int (10 : Int32), .int (15 : Int32)]) (rest := []) ⟨hx, hb, hml, hown, hts⟩ (CX10_within l D cI cS cP ad A n σ σ18 r19 p2 (10 : Int32) (15 : Int32) hC20) (va_cwS 3 hts gX10_refusesPair_X10_within rfl rfl rfl (by decide +kernel) ⟨Nat.le_of_ble_eq_true rfl, Nat.le_of_ble_eq_true rfl⟩) (z_preS hN hK hP hD) rfl rfl hl.1 rfl (lv_room (Nat.le_of_ble_eq_true rfl)) dX10_refusesPair_5 ⟨Nat.zero_le _, Nat.zero_le _⟩) hS (fun H locs hP hD hS => ?_)
  refine lv_istore_n (lv' := [(3, .int r19), (0, .ref (ad 0)), (1, .int p1), (2, .int p2)]) hx hb dX10_refusesPair_8 rfl hl (by decide) rfl (fun ls hl => ?_)
  refine lv_iload_n hx hb dX10_refusesPair_9 rfl (lv_at hl 3 rfl) ?_
  refine lv_iconst (v := (0 : Int32)) hx hb dX10_refusesPair_10 (by decide) ?_
  refine lv_iconst (v := (1 : Int32)) hx hb dX10_refusesPair_11 (by decide) ?_
  obtain ⟨r22, σ21, hC23, hF⟩ := zbd_inv hF
  refine z_calli (va_runS (As := [.int p2, .int (0 : Int32), .int (1 : Int32)]) (rest := []) ⟨hx, hb, hml, hown, hts⟩ (CX10_within l D cI cS cP ad A n σ18 σ21 r22 p2 (0 : Int32) (1 : Int32) hC23) (va_cwS 3 hts gX10_refusesPair_X10_within rfl rfl rfl (by decide +kernel) ⟨Nat.le_of_ble_eq_true rfl, Nat.le_of_ble_eq_true rfl⟩) (z_preS hN hK hP hD) rfl rfl hl.1 rfl (lv_room (Nat.le_of_ble_eq_true rfl)) dX10_refusesPair_12 ⟨Nat.zero_le _, Nat.zero_le _⟩) hS (fun H locs hP hD hS => ?_)
  refine lv_if_ne (tgt := 22) hx hb dX10_refusesPair_15 (by decide) (fun b24 => ?_) (fun b24 => ?_)
  · have hF := zif_f b24 hF
    exact hB22 σ21 p1 p2 r19 _ _ _ hF hP hD hS (lv_sub hl [1, 2, 3, 0] rfl)
  · have hF := zif_t b24 hF
    refine lv_iload_n hx hb dX10_refusesPair_18 rfl (lv_at hl 0 rfl) ?_
    refine lv_if_eq (tgt := 36) hx hb dX10_refusesPair_19 (by decide) (fun b25 => ?_) (fun b25 => ?_)
    · have hF := zif_t b25 hF
      refine lv_bipush (v := (-2 : Int32)) hx hb dX10_refusesPair_36 (by decide) ?_
      exact z_iret hx hb hr hlocks hN hK hP hD hS hF dX10_refusesPair_38
    · have hF := zif_f b25 hF
      exact hB22 σ21 p1 p2 r19 _ _ _ hF hP hD hS (lv_sub hl [1, 2, 3, 0] rfl)
theorem kX10_tellYear_f149 : Cond.fieldLink RX10 149 "LeastAskedModel" "yearBrought" "I" ∈ wsX10_tellYear := by decide +kernel
theorem kX10_tellYear_f152 : Cond.fieldLink RX10 152 "LeastAskedModel" "yearAsked" "I" ∈ wsX10_tellYear := by decide +kernel
theorem kX10_tellYear_f155 : Cond.fieldLink RX10 155 "LeastAskedModel" "yearKnown" "I" ∈ wsX10_tellYear := by decide +kernel
theorem kX10_tellYear_f25 : Cond.fieldLink RX10 25 "LeastAskedModel" "asked" "[I" ∈ wsX10_tellYear := by decide +kernel
theorem iX10_tellYear_X10 : ∀ w ∈ u_ws RX10 TX10 32, w ∈ wsX10_tellYear := fun _ h => List.mem_cons_of_mem _ (List.mem_append_right _ h)
set_option maxHeartbeats 4000000 in
set_option maxRecDepth 100000 in
theorem CX10_tellYear (l : Launch) (D : va_G) (cI cS cP : ClassId) (ad : Nat → Nat) (A : Nat → Prop) (n : Nat) (σ σ' : zMem) (r0 : Int32) (p1 : Int32) (hF : FX10_tellYear n σ p1 = some (r0, σ')) : Met l yX10_tellYear wsX10_tellYear ({ frames := 1, cells := 0, slots := 0, locals := 22 } : Room) (va_Pc [.ref (ad 0), .int p1] (zB (zm cI ad) 20 ad D (zty cI cS cP) A σ)) (va_Qi (fun r u => r = r0 ∧ u = σ') (zB (zm cI ad) 20 ad D (zty cI cS cP) A) A) 0 0 A := by
  refine Met.ofW (cc := cX10_tellYear) (maxL := 2) (ret := (some .int)) (by decide) rfl ?_
  intro p e s m args below meth c s₁ B hml hv
  obtain ⟨rfl, hP, hK, hD, hN⟩ := hv
  have hx := B.exec
  have hb := B.bytes
  have hr := B.returns
  have hts := atoms_spec (ws := wsX10_tellYear) B.pre
  have hown : s.vm.findClass RX10 = some m.cls := findClass_of_methodNamed B.named
  have hlocks := B.notSynchronized
  have hS : va_S A s.heap s.heap [] := va_S.rf
  have hl := lv_entry ([.ref (ad 0), .int p1]) (n := 2) (Nat.le_of_ble_eq_true rfl)
  rw [lg_entry_eq]
  generalize (lg_sl ([.ref (ad 0), .int p1]) ++ List.replicate (2 - (lg_sl ([.ref (ad 0), .int p1])).length) Slot.unset).toArray = ls at hl ⊢
  have hl : lv_has ls 2 [(0, .ref (ad 0)), (1, .int p1)] := hl
  clear B
  have hB79 : ∀ (σ : zMem) (l1 : Int32), ∀ (H : Heap) (locs : List Loc) (ls : Array Slot), BX10_tellYear_79 n σ l1 = some (r0, σ') → va_P D vwCl (zW (zm cI ad) 20 ad σ) H → va_D A (zW (zm cI ad) 20 ad σ) → va_S A s.heap H locs → lv_has ls 2 [(0, .ref (ad 0)), (1, .int l1)] → W p l e (headSpec wsX10_tellYear ({ frames := 1, cells := 0, slots := 0, locals := 22 } : Room)).room s m ([.ref (ad 0), .int p1] : List Value).toArray below meth c H locs 0 0 (MQ below (va_Qi (fun r u => r = r0 ∧ u = σ') (zB (zm cI ad) 20 ad D (zty cI cS cP) A) A) ([.ref (ad 0), .int p1] : List Value).toArray s 0 0 A) (F0 m 79 ls []) := by
    intro σ l1 H locs ls hF hP hD hS hl
    unfold BX10_tellYear_79 at hF
    refine lv_aload_n hx hb dX10_tellYear_79 rfl (lv_at hl 0 rfl) ?_
    obtain ⟨r2, σ1, hC3, hF⟩ := zbd_inv hF
    refine z_calli (va_runV (As := []) (rest := []) ⟨hx, hb, hml, hown, hts⟩ (CX10_firstOf l D cI cS cP ad A n σ σ1 r2 hC3) (cwV 0 hts gX10_tellYear_X10_firstOf rfl rfl rfl (by decide +kernel) ⟨Nat.le_of_ble_eq_true rfl, Nat.le_of_ble_eq_true rfl⟩) (z_preV hN hK hP hD (by decide) zm_0 rfl) rfl rfl hl.1 rfl (lv_room (Nat.le_of_ble_eq_true rfl)) dX10_tellYear_80 ⟨Nat.zero_le _, Nat.zero_le _⟩) hS (fun H locs hP hD hS => ?_)
    exact z_iret hx hb hr hlocks hN hK hP hD hS hF dX10_tellYear_83
  unfold FX10_tellYear at hF
  refine lv_iload_n hx hb dX10_tellYear_0 rfl (lv_at hl 1 rfl) ?_
  refine lv_bipush (v := (10 : Int32)) hx hb dX10_tellYear_1 (by decide) ?_
  refine lv_icmp_lt (tgt := 32) hx hb dX10_tellYear_3 (by decide) (fun b4 => ?_) (fun b4 => ?_)
  · have hF := zif_t b4 hF
    refine lv_iload_n hx hb dX10_tellYear_32 rfl (lv_at hl 1 rfl) ?_
    by_cases b5 : p1 = (0 : Int32)
    · have hF := zif_t b5 hF
      refine lv_tableIn (tgt := 64) hx hb dX10_tellYear_33 (by rw [b5]; decide) (by rw [b5]; decide) (by rw [b5]; rfl) (by decide) ?_
      refine lv_aload_n hx hb dX10_tellYear_64 rfl (lv_at hl 0 rfl) ?_
      refine z_get (ci := 9) (C := RX10) (T := TX10) (N := 32) hx hb hts iX10_tellYear_X10 hown hK hP (by decide) zm_0 rfl 19 (by decide) kX10_tellYear_f149 rfl (v := .int (σ 0 19)) rfl dX10_tellYear_65 ?_
      exact z_iret hx hb hr hlocks hN hK hP hD hS hF dX10_tellYear_68
    · have hF := zif_f b5 hF
      by_cases b6 : p1 = (1 : Int32)
      · have hF := zif_t b6 hF
        refine lv_tableIn (tgt := 79) hx hb dX10_tellYear_33 (by rw [b6]; decide) (by rw [b6]; decide) (by rw [b6]; rfl) (by decide) ?_
        exact hB79 σ p1 _ _ _ hF hP hD hS (lv_sub hl [0, 1] rfl)
      · have hF := zif_f b6 hF
        by_cases b7 : p1 = (2 : Int32)
        · have hF := zif_t b7 hF
          refine lv_tableIn (tgt := 69) hx hb dX10_tellYear_33 (by rw [b7]; decide) (by rw [b7]; decide) (by rw [b7]; rfl) (by decide) ?_
          refine lv_aload_n hx hb dX10_tellYear_69 rfl (lv_at hl 0 rfl) ?_
          refine z_get (ci := 9) (C := RX10) (T := TX10) (N := 32) hx hb hts iX10_tellYear_X10 hown hK hP (by decide) zm_0 rfl 20 (by decide) kX10_tellYear_f152 rfl (v := .int (σ 0 20)) rfl dX10_tellYear_70 ?_
          exact z_iret hx hb hr hlocks hN hK hP hD hS hF dX10_tellYear_73
        · have hF := zif_f b7 hF
          by_cases b8 : p1 = (3 : Int32)
          · have hF := zif_t b8 hF
            refine lv_tableIn (tgt := 74) hx hb dX10_tellYear_33 (by rw [b8]; decide) (by rw [b8]; decide) (by rw [b8]; rfl) (by decide) ?_
            refine lv_aload_n hx hb dX10_tellYear_74 rfl (lv_at hl 0 rfl) ?_
            refine z_get (ci := 9) (C := RX10) (T := TX10) (N := 32) hx hb hts iX10_tellYear_X10 hown hK hP (by decide) zm_0 rfl 21 (by decide) kX10_tellYear_f155 rfl (v := .int (σ 0 21)) rfl dX10_tellYear_75 ?_
            exact z_iret hx hb hr hlocks hN hK hP hD hS hF dX10_tellYear_78
          · have hF := zif_f b8 hF
            refine lv_tableOut (tgt := 79) hx hb dX10_tellYear_33 (by have nb5 := lv_neT b5 (a := 0) (by decide); have nb6 := lv_neT b6 (a := 1) (by decide); have nb7 := lv_neT b7 (a := 2) (by decide); have nb8 := lv_neT b8 (a := 3) (by decide); omega) (by decide) ?_
            exact hB79 σ p1 _ _ _ hF hP hD hS (lv_sub hl [0, 1] rfl)
  · have hF := zif_f b4 hF
    refine lv_aload_n hx hb dX10_tellYear_6 rfl (lv_at hl 0 rfl) ?_
    refine lv_iload_n hx hb dX10_tellYear_7 rfl (lv_at hl 1 rfl) ?_
    refine lv_bipush (v := (10 : Int32)) hx hb dX10_tellYear_8 (by decide) ?_
    refine lv_isub hx hb dX10_tellYear_10 ?_
    obtain ⟨r10, σ9, hC11, hF⟩ := zbd_inv hF
    refine z_calli (va_runV (As := [.int (p1 - (10 : Int32))]) (rest := []) ⟨hx, hb, hml, hown, hts⟩ (CX10_isPerson l D cI cS cP ad A n σ σ9 r10 (p1 - (10 : Int32)) hC11) (cwV 1 hts gX10_tellYear_X10_isPerson rfl rfl rfl (by decide +kernel) ⟨Nat.le_of_ble_eq_true rfl, Nat.le_of_ble_eq_true rfl⟩) (z_preV hN hK hP hD (by decide) zm_0 rfl) rfl rfl hl.1 rfl (lv_room (Nat.le_of_ble_eq_true rfl)) dX10_tellYear_11 ⟨Nat.zero_le _, Nat.zero_le _⟩) hS (fun H locs hP hD hS => ?_)
    refine lv_if_eq (tgt := 29) hx hb dX10_tellYear_14 (by decide) (fun b12 => ?_) (fun b12 => ?_)
    · have hF := zif_t b12 hF
      refine lv_bipush (v := (-9 : Int32)) hx hb dX10_tellYear_29 (by decide) ?_
      exact z_iret hx hb hr hlocks hN hK hP hD hS hF dX10_tellYear_31
    · have hF := zif_f b12 hF
      refine lv_aload_n hx hb dX10_tellYear_17 rfl (lv_at hl 0 rfl) ?_
      refine z_get (ci := 9) (C := RX10) (T := TX10) (N := 32) hx hb hts iX10_tellYear_X10 hown hK hP (by decide) zm_0 rfl 10 (by decide) kX10_tellYear_f25 rfl (v := .ref (ad 6)) rfl dX10_tellYear_18 ?_
      refine lv_iload_n hx hb dX10_tellYear_21 rfl (lv_at hl 1 rfl) ?_
      refine lv_bipush (v := (10 : Int32)) hx hb dX10_tellYear_22 (by decide) ?_
      refine lv_isub hx hb dX10_tellYear_24 ?_
      obtain ⟨g13, hF⟩ := zgd_inv hF
      refine z_iald hx hb hK hP (by decide) (zm_a (n := 6) (by decide)) rfl g13 dX10_tellYear_25 ?_
      refine lv_goto (tgt := 31) hx hb dX10_tellYear_26 (by decide) ?_
      exact z_iret hx hb hr hlocks hN hK hP hD hS hF dX10_tellYear_31
theorem kX10_year_f16 : Cond.fieldLink RX10 16 "LeastAskedModel" "cells" "[I" ∈ wsX10_year := by decide +kernel
theorem kX10_year_f77 : Cond.fieldLink RX10 77 "LeastAskedModel" "people" "I" ∈ wsX10_year := by decide +kernel
theorem kX10_year_f67 : Cond.fieldLink RX10 67 "LeastAskedModel" "fault" "I" ∈ wsX10_year := by decide +kernel
theorem iX10_year_X10 : ∀ w ∈ u_ws RX10 TX10 32, w ∈ wsX10_year := fun _ h => List.mem_cons_of_mem _ (List.mem_append_right _ h)
set_option maxHeartbeats 4000000 in
set_option maxRecDepth 100000 in
theorem CX10_year (l : Launch) (D : va_G) (cI cS cP : ClassId) (ad : Nat → Nat) (A : Nat → Prop) (n : Nat) (σ σ' : zMem) (r0 : Int32) (p1 : Int32) (p2 : Int32) (p3 : Int32) (p4 : Int32) (p5 : Int32) (hF : FX10_year n σ p1 p2 p3 p4 p5 = some (r0, σ')) : Met l yX10_year wsX10_year ({ frames := 4, cells := 0, slots := 0, locals := 89 } : Room) (va_Pc [.ref (ad 0), .int p1, .int p2, .int p3, .int p4, .int p5] (zB (zm cI ad) 20 ad D (zty cI cS cP) A σ)) (va_Qi (fun r u => r = r0 ∧ u = σ') (zB (zm cI ad) 20 ad D (zty cI cS cP) A) A) 0 0 A := by
  refine Met.ofW (cc := cX10_year) (maxL := 10) (ret := (some .int)) (by decide) rfl ?_
  intro p e s m args below meth c s₁ B hml hv
  obtain ⟨rfl, hP, hK, hD, hN⟩ := hv
  have hx := B.exec
  have hb := B.bytes
  have hr := B.returns
  have hts := atoms_spec (ws := wsX10_year) B.pre
  have hown : s.vm.findClass RX10 = some m.cls := findClass_of_methodNamed B.named
  have hlocks := B.notSynchronized
  have hS : va_S A s.heap s.heap [] := va_S.rf
  have hl := lv_entry ([.ref (ad 0), .int p1, .int p2, .int p3, .int p4, .int p5]) (n := 10) (Nat.le_of_ble_eq_true rfl)
  rw [lg_entry_eq]
  generalize (lg_sl ([.ref (ad 0), .int p1, .int p2, .int p3, .int p4, .int p5]) ++ List.replicate (10 - (lg_sl ([.ref (ad 0), .int p1, .int p2, .int p3, .int p4, .int p5])).length) Slot.unset).toArray = ls at hl ⊢
  have hl : lv_has ls 10 [(0, .ref (ad 0)), (1, .int p1), (2, .int p2), (3, .int p3), (4, .int p4), (5, .int p5)] := hl
  clear B
  have hB103 : ∀ (f103 : Nat) (σ : zMem) (l1 : Int32) (l2 : Int32) (l3 : Int32) (l4 : Int32) (l5 : Int32) (l6 : Int32) (l7 : Int32) (l8 : Int32), ∀ (H : Heap) (locs : List Loc) (ls : Array Slot), zlp (LX10_year_103 n) f103 (σ, l1, l2, l3, l4, l5, l6, l7, l8) = some (r0, σ') → va_P D vwCl (zW (zm cI ad) 20 ad σ) H → va_D A (zW (zm cI ad) 20 ad σ) → va_S A s.heap H locs → lv_has ls 10 [(0, .ref (ad 0)), (1, .int l1), (2, .int l2), (3, .int l3), (4, .int l4), (5, .int l5), (6, .int l6), (7, .int l7), (8, .int l8)] → W p l e (headSpec wsX10_year ({ frames := 4, cells := 0, slots := 0, locals := 89 } : Room)).room s m ([.ref (ad 0), .int p1, .int p2, .int p3, .int p4, .int p5] : List Value).toArray below meth c H locs 0 0 (MQ below (va_Qi (fun r u => r = r0 ∧ u = σ') (zB (zm cI ad) 20 ad D (zty cI cS cP) A) A) ([.ref (ad 0), .int p1, .int p2, .int p3, .int p4, .int p5] : List Value).toArray s 0 0 A) (F0 m 103 ls []) := by
    intro f103
    induction f103 with
    | zero => intro σ l1 l2 l3 l4 l5 l6 l7 l8 H locs ls hF hP hD hS hl; exact (zlp_0 hF).elim
    | succ f103 ih103 =>
      intro σ l1 l2 l3 l4 l5 l6 l7 l8 H locs ls hF hP hD hS hl
      have hF : LBX10_year_103 n   (zlp (LX10_year_103 n) f103) σ l1 l2 l3 l4 l5 l6 l7 l8 = some (r0, σ') := hF
      unfold LBX10_year_103 at hF
      refine lv_iload hx hb dX10_year_103 (lv_at hl 8 rfl) ?_
      refine lv_iload hx hb dX10_year_105 (lv_at hl 4 rfl) ?_
      refine lv_icmp_ge (tgt := 156) hx hb dX10_year_107 (by decide) (fun b1 => ?_) (fun b1 => ?_)
      · have hF := zif_t b1 hF
        refine lv_aload_n hx hb dX10_year_156 rfl (lv_at hl 0 rfl) ?_
        obtain ⟨r3, σ2, hC4, hF⟩ := zbd_inv hF
        refine z_callv (va_runV (As := []) (rest := []) ⟨hx, hb, hml, hown, hts⟩ (CX10_keep l D cI cS cP ad A n σ σ2 r3 hC4) (cwV 0 hts gX10_year_X10_keep rfl rfl rfl (by decide +kernel) ⟨Nat.le_of_ble_eq_true rfl, Nat.le_of_ble_eq_true rfl⟩) (z_preV hN hK hP hD (by decide) zm_0 rfl) rfl rfl hl.1 rfl (lv_room (Nat.le_of_ble_eq_true rfl)) dX10_year_157 ⟨Nat.zero_le _, Nat.zero_le _⟩) hS (fun H locs hP hD hS => ?_)
        refine lv_aload_n hx hb dX10_year_160 rfl (lv_at hl 0 rfl) ?_
        refine lv_iload hx hb dX10_year_161 (lv_at hl 7 rfl) ?_
        refine lv_iload hx hb dX10_year_163 (lv_at hl 4 rfl) ?_
        obtain ⟨r6, σ5, hC7, hF⟩ := zbd_inv hF
        refine z_calli (va_runV (As := [.int l7, .int l4]) (rest := []) ⟨hx, hb, hml, hown, hts⟩ (CX10_goYear l D cI cS cP ad A n σ2 σ5 r6 l7 l4 hC7) (cwV 2 hts gX10_year_X10_goYear rfl rfl rfl (by decide +kernel) ⟨Nat.le_of_ble_eq_true rfl, Nat.le_of_ble_eq_true rfl⟩) (z_preV hN hK hP hD (by decide) zm_0 rfl) rfl rfl hl.1 rfl (lv_room (Nat.le_of_ble_eq_true rfl)) dX10_year_165 ⟨Nat.zero_le _, Nat.zero_le _⟩) hS (fun H locs hP hD hS => ?_)
        refine lv_istore (lv' := [(8, .int r6), (0, .ref (ad 0)), (1, .int l1), (2, .int l2), (3, .int l3), (4, .int l4), (5, .int l5), (6, .int l6), (7, .int l7)]) hx hb dX10_year_168 hl (by decide) rfl (fun ls hl => ?_)
        refine lv_aload_n hx hb dX10_year_170 rfl (lv_at hl 1 rfl) ?_
        refine lv_iload hx hb dX10_year_171 (lv_at hl 6 rfl) ?_
        obtain ⟨r9, σ8, hC10, hF⟩ := zbd_inv hF
        refine z_calli (va_runV (As := [.int l5]) (rest := []) ⟨hx, hb, hml, hown, hts⟩ (CX10_tellYear l D cI cS cP ad A n σ5 σ8 r9 l5 hC10) (cwV 1 hts gX10_year_X10_tellYear rfl rfl rfl (by decide +kernel) ⟨Nat.le_of_ble_eq_true rfl, Nat.le_of_ble_eq_true rfl⟩) (z_preV hN hK hP hD (by decide) zm_0 rfl) rfl rfl hl.1 rfl (lv_room (Nat.le_of_ble_eq_true rfl)) dX10_year_173 ⟨Nat.zero_le _, Nat.zero_le _⟩) hS (fun H locs hP hD hS => ?_)
        refine lv_istore (lv' := [(9, .int r9), (8, .int r6), (0, .ref (ad 0)), (1, .int l1), (2, .int l2), (3, .int l3), (4, .int l4), (5, .int l5), (6, .int l6), (7, .int l7)]) hx hb dX10_year_176 hl (by decide) rfl (fun ls hl => ?_)
        refine lv_aload_n hx hb dX10_year_178 rfl (lv_at hl 2 rfl) ?_
        obtain ⟨r12, σ11, hC13, hF⟩ := zbd_inv hF
        refine z_callv (va_runV (As := []) (rest := []) ⟨hx, hb, hml, hown, hts⟩ (CX10_putBack l D cI cS cP ad A n σ8 σ11 r12 hC13) (cwV 0 hts gX10_year_X10_putBack rfl rfl rfl (by decide +kernel) ⟨Nat.le_of_ble_eq_true rfl, Nat.le_of_ble_eq_true rfl⟩) (z_preV hN hK hP hD (by decide) zm_0 rfl) rfl rfl hl.1 rfl (lv_room (Nat.le_of_ble_eq_true rfl)) dX10_year_179 ⟨Nat.zero_le _, Nat.zero_le _⟩) hS (fun H locs hP hD hS => ?_)
        refine lv_iload hx hb dX10_year_182 (lv_at hl 7 rfl) ?_
        refine lv_iconst (v := (1 : Int32)) hx hb dX10_year_184 (by decide) ?_
        refine lv_icmp_ne (tgt := 193) hx hb dX10_year_185 (by decide) (fun b14 => ?_) (fun b14 => ?_)
        · have hF := zif_f b14 hF
          refine lv_iload hx hb dX10_year_193 (lv_at hl 1 rfl) ?_
          refine lv_bipush (v := (-9 : Int32)) hx hb dX10_year_195 (by decide) ?_
          refine lv_icmp_ne (tgt := 205) hx hb dX10_year_197 (by decide) (fun b15 => ?_) (fun b15 => ?_)
          · have hF := zif_f b15 hF
            refine lv_bipush (v := (-100 : Int32)) hx hb dX10_year_205 (by decide) ?_
            refine lv_iload hx hb dX10_year_207 (lv_at hl 1 rfl) ?_
            refine lv_isub hx hb dX10_year_209 ?_
            exact z_iret hx hb hr hlocks hN hK hP hD hS hF dX10_year_210
          · have hF := zif_t b15 hF
            refine lv_iload hx hb dX10_year_200 (lv_at hl 0 rfl) ?_
            refine lv_goto (tgt := 210) hx hb dX10_year_202 (by decide) ?_
            exact z_iret hx hb hr hlocks hN hK hP hD hS hF dX10_year_210
        · have hF := zif_t b14 hF
          refine lv_iload hx hb dX10_year_188 (lv_at hl 1 rfl) ?_
          refine lv_goto (tgt := 210) hx hb dX10_year_190 (by decide) ?_
          exact z_iret hx hb hr hlocks hN hK hP hD hS hF dX10_year_210
      · have hF := zif_f b1 hF
        refine lv_aload_n hx hb dX10_year_110 rfl (lv_at hl 0 rfl) ?_
        refine lv_aload_n hx hb dX10_year_111 rfl (lv_at hl 0 rfl) ?_
        refine z_get (ci := 9) (C := RX10) (T := TX10) (N := 32) hx hb hts iX10_year_X10 hown hK hP (by decide) zm_0 rfl 4 (by decide) kX10_year_f16 rfl (v := .ref (ad 3)) rfl dX10_year_112 ?_
        refine lv_iload hx hb dX10_year_115 (lv_at hl 7 rfl) ?_
        refine lv_iconst (v := (2 : Int32)) hx hb dX10_year_117 (by decide) ?_
        refine lv_iload hx hb dX10_year_118 (lv_at hl 8 rfl) ?_
        refine lv_imul hx hb dX10_year_120 ?_
        refine lv_iadd hx hb dX10_year_121 ?_
        obtain ⟨g16, hF⟩ := zgd_inv hF
        refine z_iald hx hb hK hP (by decide) (zm_a (n := 240) (by decide)) rfl g16 dX10_year_122 ?_
        refine lv_aload_n hx hb dX10_year_123 rfl (lv_at hl 0 rfl) ?_
        refine z_get (ci := 9) (C := RX10) (T := TX10) (N := 32) hx hb hts iX10_year_X10 hown hK hP (by decide) zm_0 rfl 4 (by decide) kX10_year_f16 rfl (v := .ref (ad 3)) rfl dX10_year_124 ?_
        refine lv_iload hx hb dX10_year_127 (lv_at hl 7 rfl) ?_
        refine lv_iconst (v := (2 : Int32)) hx hb dX10_year_129 (by decide) ?_
        refine lv_iload hx hb dX10_year_130 (lv_at hl 8 rfl) ?_
        refine lv_imul hx hb dX10_year_132 ?_
        refine lv_iadd hx hb dX10_year_133 ?_
        refine lv_iconst (v := (1 : Int32)) hx hb dX10_year_134 (by decide) ?_
        refine lv_iadd hx hb dX10_year_135 ?_
        obtain ⟨g17, hF⟩ := zgd_inv hF
        refine z_iald hx hb hK hP (by decide) (zm_a (n := 240) (by decide)) rfl g17 dX10_year_136 ?_
        obtain ⟨r19, σ18, hC20, hF⟩ := zbd_inv hF
        refine z_calli (va_runV (As := [.int (σ 3 ((l7 + ((2 : Int32) * l8)) : Int32).toNatClampNeg), .int (σ 3 (((l7 + ((2 : Int32) * l8)) + (1 : Int32)) : Int32).toNatClampNeg)]) (rest := []) ⟨hx, hb, hml, hown, hts⟩ (CX10_refusesPair l D cI cS cP ad A n σ σ18 r19 (σ 3 ((l7 + ((2 : Int32) * l8)) : Int32).toNatClampNeg) (σ 3 (((l7 + ((2 : Int32) * l8)) + (1 : Int32)) : Int32).toNatClampNeg) hC20) (cwV 2 hts gX10_year_X10_refusesPair rfl rfl rfl (by decide +kernel) ⟨Nat.le_of_ble_eq_true rfl, Nat.le_of_ble_eq_true rfl⟩) (z_preV hN hK hP hD (by decide) zm_0 rfl) rfl rfl hl.1 rfl (lv_room (Nat.le_of_ble_eq_true rfl)) dX10_year_137 ⟨Nat.zero_le _, Nat.zero_le _⟩) hS (fun H locs hP hD hS => ?_)
        refine lv_istore (lv' := [(9, .int r19), (0, .ref (ad 0)), (1, .int l1), (2, .int l2), (3, .int l3), (4, .int l4), (5, .int l5), (6, .int l6), (7, .int l7), (8, .int l8)]) hx hb dX10_year_140 hl (by decide) rfl (fun ls hl => ?_)
        refine lv_iload hx hb dX10_year_142 (lv_at hl 0 rfl) ?_
        refine lv_if_eq (tgt := 150) hx hb dX10_year_144 (by decide) (fun b21 => ?_) (fun b21 => ?_)
        · have hF := zif_t b21 hF
          refine lv_iinc (v := (l8 + (1 : Int32))) (lv' := [(8, .int (l8 + (1 : Int32))), (9, .int r19), (0, .ref (ad 0)), (1, .int l1), (2, .int l2), (3, .int l3), (4, .int l4), (5, .int l5), (6, .int l6), (7, .int l7)]) hx hb dX10_year_150 hl (k := 9) rfl rfl (by decide) rfl (fun ls hl => ?_)
          refine lv_goto (tgt := 103) hx hb dX10_year_153 (by decide) ?_
          exact ih103 σ18 l1 l2 l3 l4 l5 l6 l7 (l8 + (1 : Int32)) _ _ _ hF hP hD hS (lv_sub hl [2, 3, 4, 5, 6, 7, 8, 9, 0] rfl)
        · have hF := zif_f b21 hF
          refine lv_iload hx hb dX10_year_147 (lv_at hl 0 rfl) ?_
          exact z_iret hx hb hr hlocks hN hK hP hD hS hF dX10_year_149
  have hB57 : ∀ (σ : zMem) (l1 : Int32) (l2 : Int32) (l3 : Int32) (l4 : Int32) (l5 : Int32), ∀ (H : Heap) (locs : List Loc) (ls : Array Slot), BX10_year_57 n σ l1 l2 l3 l4 l5 = some (r0, σ') → va_P D vwCl (zW (zm cI ad) 20 ad σ) H → va_D A (zW (zm cI ad) 20 ad σ) → va_S A s.heap H locs → lv_has ls 10 [(0, .ref (ad 0)), (1, .int l1), (2, .int l2), (3, .int l3), (4, .int l4), (5, .int l5)] → W p l e (headSpec wsX10_year ({ frames := 4, cells := 0, slots := 0, locals := 89 } : Room)).room s m ([.ref (ad 0), .int p1, .int p2, .int p3, .int p4, .int p5] : List Value).toArray below meth c H locs 0 0 (MQ below (va_Qi (fun r u => r = r0 ∧ u = σ') (zB (zm cI ad) 20 ad D (zty cI cS cP) A) A) ([.ref (ad 0), .int p1, .int p2, .int p3, .int p4, .int p5] : List Value).toArray s 0 0 A) (F0 m 57 ls []) := by
    intro σ l1 l2 l3 l4 l5 H locs ls hF hP hD hS hl
    unfold BX10_year_57 at hF
    refine lv_aload_n hx hb dX10_year_57 rfl (lv_at hl 0 rfl) ?_
    refine lv_iload_n hx hb dX10_year_58 rfl (lv_at hl 1 rfl) ?_
    refine lv_iload_n hx hb dX10_year_59 rfl (lv_at hl 2 rfl) ?_
    refine lv_iload_n hx hb dX10_year_60 rfl (lv_at hl 3 rfl) ?_
    refine lv_iconst (v := (2 : Int32)) hx hb dX10_year_61 (by decide) ?_
    refine lv_iload hx hb dX10_year_62 (lv_at hl 4 rfl) ?_
    refine lv_imul hx hb dX10_year_64 ?_
    obtain ⟨r23, σ22, hC24, hF⟩ := zbd_inv hF
    refine z_calli (va_runV (As := [.int l1, .int l2, .int l3, .int ((2 : Int32) * l4)]) (rest := []) ⟨hx, hb, hml, hown, hts⟩ (CX10_against l D cI cS cP ad A n σ σ22 r23 l1 l2 l3 ((2 : Int32) * l4) hC24) (cwV 4 hts gX10_year_X10_against rfl rfl rfl (by decide +kernel) ⟨Nat.le_of_ble_eq_true rfl, Nat.le_of_ble_eq_true rfl⟩) (z_preV hN hK hP hD (by decide) zm_0 rfl) rfl rfl hl.1 rfl (lv_room (Nat.le_of_ble_eq_true rfl)) dX10_year_65 ⟨Nat.zero_le _, Nat.zero_le _⟩) hS (fun H locs hP hD hS => ?_)
    refine lv_istore (lv' := [(6, .int r23), (0, .ref (ad 0)), (1, .int l1), (2, .int l2), (3, .int l3), (4, .int l4), (5, .int l5)]) hx hb dX10_year_68 hl (by decide) rfl (fun ls hl => ?_)
    refine lv_iload hx hb dX10_year_70 (lv_at hl 0 rfl) ?_
    refine lv_if_eq (tgt := 82) hx hb dX10_year_72 (by decide) (fun b25 => ?_) (fun b25 => ?_)
    · have hF := zif_t b25 hF
      refine lv_aload_n hx hb dX10_year_82 rfl (lv_at hl 1 rfl) ?_
      refine z_get (ci := 9) (C := RX10) (T := TX10) (N := 32) hx hb hts iX10_year_X10 hown hK hP (by decide) zm_0 rfl 5 (by decide) kX10_year_f77 rfl (v := .int (σ22 0 5)) rfl dX10_year_83 ?_
      refine lv_if_ne (tgt := 92) hx hb dX10_year_86 (by decide) (fun b26 => ?_) (fun b26 => ?_)
      · have hF := zif_f b26 hF
        refine lv_bipush (v := (60 : Int32)) hx hb dX10_year_92 (by decide) ?_
        refine lv_iload_n hx hb dX10_year_94 rfl (lv_at hl 2 rfl) ?_
        refine lv_imul hx hb dX10_year_95 ?_
        refine lv_iload_n hx hb dX10_year_96 rfl (lv_at hl 4 rfl) ?_
        refine lv_iadd hx hb dX10_year_97 ?_
        refine lv_istore (lv' := [(7, .int (((60 : Int32) * l1) + l3)), (6, .int r23), (0, .ref (ad 0)), (1, .int l1), (2, .int l2), (3, .int l3), (4, .int l4), (5, .int l5)]) hx hb dX10_year_98 hl (by decide) rfl (fun ls hl => ?_)
        refine lv_iconst (v := (0 : Int32)) hx hb dX10_year_100 (by decide) ?_
        refine lv_istore (lv' := [(8, .int (0 : Int32)), (7, .int (((60 : Int32) * l1) + l3)), (6, .int r23), (0, .ref (ad 0)), (1, .int l1), (2, .int l2), (3, .int l3), (4, .int l4), (5, .int l5)]) hx hb dX10_year_101 hl (by decide) rfl (fun ls hl => ?_)
        exact hB103 n σ22 l1 l2 l3 l4 l5 r23 (((60 : Int32) * l1) + l3) (0 : Int32) _ _ _ hF hP hD hS (lv_sub hl [3, 4, 5, 6, 7, 8, 2, 1, 0] rfl)
      · have hF := zif_t b26 hF
        refine lv_bipush (v := (-3 : Int32)) hx hb dX10_year_89 (by decide) ?_
        exact z_iret hx hb hr hlocks hN hK hP hD hS hF dX10_year_91
    · have hF := zif_f b25 hF
      refine lv_aload_n hx hb dX10_year_75 rfl (lv_at hl 1 rfl) ?_
      refine lv_iload hx hb dX10_year_76 (lv_at hl 0 rfl) ?_
      obtain ⟨r28, σ27, hC29, hF⟩ := zbd_inv hF
      refine z_calli (va_runV (As := [.int r23]) (rest := []) ⟨hx, hb, hml, hown, hts⟩ (CX10_fails l D cI cS cP ad A n σ22 σ27 r28 r23 hC29) (cwV 1 hts gX10_year_X10_fails rfl rfl rfl (by decide +kernel) ⟨Nat.le_of_ble_eq_true rfl, Nat.le_of_ble_eq_true rfl⟩) (z_preV hN hK hP hD (by decide) zm_0 rfl) rfl rfl hl.1 rfl (lv_room (Nat.le_of_ble_eq_true rfl)) dX10_year_78 ⟨Nat.zero_le _, Nat.zero_le _⟩) hS (fun H locs hP hD hS => ?_)
      exact z_iret hx hb hr hlocks hN hK hP hD hS hF dX10_year_81
  unfold FX10_year at hF
  refine lv_aload_n hx hb dX10_year_0 rfl (lv_at hl 0 rfl) ?_
  refine lv_iconst (v := (0 : Int32)) hx hb dX10_year_1 (by decide) ?_
  obtain ⟨σ30, eσ30, hF⟩ := zlet_inv hF
  refine z_put (ci := 9) (C := RX10) (T := TX10) (N := 32) hx hb hts iX10_year_X10 tyX10 tyX10_ok nmX10 hown hK hP hD hS (by decide) zm_0 rfl 0 (by decide) kX10_year_f67 rfl rfl rfl rfl (Nat.le_of_ble_eq_true rfl) zm_0 dX10_year_2 (fun H locs hP hD hS => ?_)
  have hP : va_P D vwCl (zW (zm cI ad) 20 ad σ30) H := by rw [eσ30]; exact hP
  have hD : va_D A (zW (zm cI ad) 20 ad σ30) := by rw [eσ30]; exact hD
  refine lv_iload_n hx hb dX10_year_5 rfl (lv_at hl 1 rfl) ?_
  obtain ⟨r32, σ31, hC33, hF⟩ := zbd_inv hF
  refine z_calli (va_runS (As := [.int p1]) (rest := []) ⟨hx, hb, hml, hown, hts⟩ (CX10_isSheet l D cI cS cP ad A n σ30 σ31 r32 p1 hC33) (va_cwS 1 hts gX10_year_X10_isSheet rfl rfl rfl (by decide +kernel) ⟨Nat.le_of_ble_eq_true rfl, Nat.le_of_ble_eq_true rfl⟩) (z_preS hN hK hP hD) rfl rfl hl.1 rfl (lv_room (Nat.le_of_ble_eq_true rfl)) dX10_year_6 ⟨Nat.zero_le _, Nat.zero_le _⟩) hS (fun H locs hP hD hS => ?_)
  refine lv_if_ne (tgt := 14) hx hb dX10_year_9 (by decide) (fun b34 => ?_) (fun b34 => ?_)
  · have hF := zif_f b34 hF
    refine lv_iload_n hx hb dX10_year_14 rfl (lv_at hl 2 rfl) ?_
    obtain ⟨r36, σ35, hC37, hF⟩ := zbd_inv hF
    refine z_calli (va_runS (As := [.int p2]) (rest := []) ⟨hx, hb, hml, hown, hts⟩ (CX10_isSort l D cI cS cP ad A n σ31 σ35 r36 p2 hC37) (va_cwS 1 hts gX10_year_X10_isSort rfl rfl rfl (by decide +kernel) ⟨Nat.le_of_ble_eq_true rfl, Nat.le_of_ble_eq_true rfl⟩) (z_preS hN hK hP hD) rfl rfl hl.1 rfl (lv_room (Nat.le_of_ble_eq_true rfl)) dX10_year_15 ⟨Nat.zero_le _, Nat.zero_le _⟩) hS (fun H locs hP hD hS => ?_)
    refine lv_if_eq (tgt := 54) hx hb dX10_year_18 (by decide) (fun b38 => ?_) (fun b38 => ?_)
    · have hF := zif_t b38 hF
      refine lv_bipush (v := (-2 : Int32)) hx hb dX10_year_54 (by decide) ?_
      exact z_iret hx hb hr hlocks hN hK hP hD hS hF dX10_year_56
    · have hF := zif_f b38 hF
      refine lv_iload hx hb dX10_year_21 (lv_at hl 4 rfl) ?_
      refine lv_iconst (v := (0 : Int32)) hx hb dX10_year_23 (by decide) ?_
      refine lv_bipush (v := (20 : Int32)) hx hb dX10_year_24 (by decide) ?_
      obtain ⟨r40, σ39, hC41, hF⟩ := zbd_inv hF
      refine z_calli (va_runS (As := [.int p4, .int (0 : Int32), .int (20 : Int32)]) (rest := []) ⟨hx, hb, hml, hown, hts⟩ (CX10_within l D cI cS cP ad A n σ35 σ39 r40 p4 (0 : Int32) (20 : Int32) hC41) (va_cwS 3 hts gX10_year_X10_within rfl rfl rfl (by decide +kernel) ⟨Nat.le_of_ble_eq_true rfl, Nat.le_of_ble_eq_true rfl⟩) (z_preS hN hK hP hD) rfl rfl hl.1 rfl (lv_room (Nat.le_of_ble_eq_true rfl)) dX10_year_26 ⟨Nat.zero_le _, Nat.zero_le _⟩) hS (fun H locs hP hD hS => ?_)
      refine lv_if_eq (tgt := 54) hx hb dX10_year_29 (by decide) (fun b42 => ?_) (fun b42 => ?_)
      · have hF := zif_t b42 hF
        refine lv_bipush (v := (-2 : Int32)) hx hb dX10_year_54 (by decide) ?_
        exact z_iret hx hb hr hlocks hN hK hP hD hS hF dX10_year_56
      · have hF := zif_f b42 hF
        refine lv_iload hx hb dX10_year_32 (lv_at hl 5 rfl) ?_
        refine lv_iconst (v := (0 : Int32)) hx hb dX10_year_34 (by decide) ?_
        refine lv_iconst (v := (4 : Int32)) hx hb dX10_year_35 (by decide) ?_
        obtain ⟨r44, σ43, hC45, hF⟩ := zbd_inv hF
        refine z_calli (va_runS (As := [.int p5, .int (0 : Int32), .int (4 : Int32)]) (rest := []) ⟨hx, hb, hml, hown, hts⟩ (CX10_within l D cI cS cP ad A n σ39 σ43 r44 p5 (0 : Int32) (4 : Int32) hC45) (va_cwS 3 hts gX10_year_X10_within rfl rfl rfl (by decide +kernel) ⟨Nat.le_of_ble_eq_true rfl, Nat.le_of_ble_eq_true rfl⟩) (z_preS hN hK hP hD) rfl rfl hl.1 rfl (lv_room (Nat.le_of_ble_eq_true rfl)) dX10_year_36 ⟨Nat.zero_le _, Nat.zero_le _⟩) hS (fun H locs hP hD hS => ?_)
        refine lv_if_ne (tgt := 57) hx hb dX10_year_39 (by decide) (fun b46 => ?_) (fun b46 => ?_)
        · have hF := zif_f b46 hF
          exact hB57 σ43 p1 p2 p3 p4 p5 _ _ _ hF hP hD hS (lv_sub hl [0, 1, 2, 3, 4, 5] rfl)
        · have hF := zif_t b46 hF
          refine lv_iload hx hb dX10_year_42 (lv_at hl 5 rfl) ?_
          refine lv_bipush (v := (10 : Int32)) hx hb dX10_year_44 (by decide) ?_
          refine lv_bipush (v := (15 : Int32)) hx hb dX10_year_46 (by decide) ?_
          obtain ⟨r48, σ47, hC49, hF⟩ := zbd_inv hF
          refine z_calli (va_runS (As := [.int p5, .int (10 : Int32), .int (15 : Int32)]) (rest := []) ⟨hx, hb, hml, hown, hts⟩ (CX10_within l D cI cS cP ad A n σ43 σ47 r48 p5 (10 : Int32) (15 : Int32) hC49) (va_cwS 3 hts gX10_year_X10_within rfl rfl rfl (by decide +kernel) ⟨Nat.le_of_ble_eq_true rfl, Nat.le_of_ble_eq_true rfl⟩) (z_preS hN hK hP hD) rfl rfl hl.1 rfl (lv_room (Nat.le_of_ble_eq_true rfl)) dX10_year_48 ⟨Nat.zero_le _, Nat.zero_le _⟩) hS (fun H locs hP hD hS => ?_)
          refine lv_if_ne (tgt := 57) hx hb dX10_year_51 (by decide) (fun b50 => ?_) (fun b50 => ?_)
          · have hF := zif_f b50 hF
            exact hB57 σ47 p1 p2 p3 p4 p5 _ _ _ hF hP hD hS (lv_sub hl [0, 1, 2, 3, 4, 5] rfl)
          · have hF := zif_t b50 hF
            refine lv_bipush (v := (-2 : Int32)) hx hb dX10_year_54 (by decide) ?_
            exact z_iret hx hb hr hlocks hN hK hP hD hS hF dX10_year_56
  · have hF := zif_t b34 hF
    refine lv_iconst (v := (-1 : Int32)) hx hb dX10_year_12 (by decide) ?_
    exact z_iret hx hb hr hlocks hN hK hP hD hS hF dX10_year_13
theorem kX10_register_f77 : Cond.fieldLink RX10 77 "LeastAskedModel" "people" "I" ∈ wsX10_register := by decide +kernel
theorem iX10_register_X10 : ∀ w ∈ u_ws RX10 TX10 32, w ∈ wsX10_register := fun _ h => List.mem_cons_of_mem _ (List.mem_append_right _ h)
set_option maxHeartbeats 4000000 in
set_option maxRecDepth 100000 in
theorem CX10_register (l : Launch) (D : va_G) (cI cS cP : ClassId) (ad : Nat → Nat) (A : Nat → Prop) (n : Nat) (σ σ' : zMem) (r0 : Int32) (p1 : Int32) (hF : FX10_register n σ p1 = some (r0, σ')) : Met l yX10_register wsX10_register ({ frames := 1, cells := 0, slots := 0, locals := 23 } : Room) (va_Pc [.ref (ad 0), .int p1] (zB (zm cI ad) 20 ad D (zty cI cS cP) A σ)) (va_Qi (fun r u => r = r0 ∧ u = σ') (zB (zm cI ad) 20 ad D (zty cI cS cP) A) A) 0 0 A := by
  refine Met.ofW (cc := cX10_register) (maxL := 3) (ret := (some .int)) (by decide) rfl ?_
  intro p e s m args below meth c s₁ B hml hv
  obtain ⟨rfl, hP, hK, hD, hN⟩ := hv
  have hx := B.exec
  have hb := B.bytes
  have hr := B.returns
  have hts := atoms_spec (ws := wsX10_register) B.pre
  have hown : s.vm.findClass RX10 = some m.cls := findClass_of_methodNamed B.named
  have hlocks := B.notSynchronized
  have hS : va_S A s.heap s.heap [] := va_S.rf
  have hl := lv_entry ([.ref (ad 0), .int p1]) (n := 3) (Nat.le_of_ble_eq_true rfl)
  rw [lg_entry_eq]
  generalize (lg_sl ([.ref (ad 0), .int p1]) ++ List.replicate (3 - (lg_sl ([.ref (ad 0), .int p1])).length) Slot.unset).toArray = ls at hl ⊢
  have hl : lv_has ls 3 [(0, .ref (ad 0)), (1, .int p1)] := hl
  clear B
  have hB24 : ∀ (f24 : Nat) (σ : zMem) (l1 : Int32) (l2 : Int32), ∀ (H : Heap) (locs : List Loc) (ls : Array Slot), zlp (LX10_register_24 n) f24 (σ, l1, l2) = some (r0, σ') → va_P D vwCl (zW (zm cI ad) 20 ad σ) H → va_D A (zW (zm cI ad) 20 ad σ) → va_S A s.heap H locs → lv_has ls 3 [(0, .ref (ad 0)), (1, .int l1), (2, .int l2)] → W p l e (headSpec wsX10_register ({ frames := 1, cells := 0, slots := 0, locals := 23 } : Room)).room s m ([.ref (ad 0), .int p1] : List Value).toArray below meth c H locs 0 0 (MQ below (va_Qi (fun r u => r = r0 ∧ u = σ') (zB (zm cI ad) 20 ad D (zty cI cS cP) A) A) ([.ref (ad 0), .int p1] : List Value).toArray s 0 0 A) (F0 m 24 ls []) := by
    intro f24
    induction f24 with
    | zero => intro σ l1 l2 H locs ls hF hP hD hS hl; exact (zlp_0 hF).elim
    | succ f24 ih24 =>
      intro σ l1 l2 H locs ls hF hP hD hS hl
      have hF : LBX10_register_24 n   (zlp (LX10_register_24 n) f24) σ l1 l2 = some (r0, σ') := hF
      unfold LBX10_register_24 at hF
      refine lv_iload_n hx hb dX10_register_24 rfl (lv_at hl 2 rfl) ?_
      refine lv_aload_n hx hb dX10_register_25 rfl (lv_at hl 0 rfl) ?_
      refine z_get (ci := 9) (C := RX10) (T := TX10) (N := 32) hx hb hts iX10_register_X10 hown hK hP (by decide) zm_0 rfl 5 (by decide) kX10_register_f77 rfl (v := .int (σ 0 5)) rfl dX10_register_26 ?_
      refine lv_icmp_ge (tgt := 49) hx hb dX10_register_29 (by decide) (fun b1 => ?_) (fun b1 => ?_)
      · have hF := zif_t b1 hF
        refine lv_bipush (v := (-9 : Int32)) hx hb dX10_register_49 (by decide) ?_
        exact z_iret hx hb hr hlocks hN hK hP hD hS hF dX10_register_51
      · have hF := zif_f b1 hF
        refine lv_aload_n hx hb dX10_register_32 rfl (lv_at hl 0 rfl) ?_
        refine lv_iload_n hx hb dX10_register_33 rfl (lv_at hl 2 rfl) ?_
        obtain ⟨r3, σ2, hC4, hF⟩ := zbd_inv hF
        refine z_calli (va_runV (As := [.int l2]) (rest := []) ⟨hx, hb, hml, hown, hts⟩ (CX10_placeOf l D cI cS cP ad A n σ σ2 r3 l2 hC4) (cwV 1 hts gX10_register_X10_placeOf rfl rfl rfl (by decide +kernel) ⟨Nat.le_of_ble_eq_true rfl, Nat.le_of_ble_eq_true rfl⟩) (z_preV hN hK hP hD (by decide) zm_0 rfl) rfl rfl hl.1 rfl (lv_room (Nat.le_of_ble_eq_true rfl)) dX10_register_34 ⟨Nat.zero_le _, Nat.zero_le _⟩) hS (fun H locs hP hD hS => ?_)
        refine lv_iload_n hx hb dX10_register_37 rfl (lv_at hl 1 rfl) ?_
        refine lv_icmp_ne (tgt := 43) hx hb dX10_register_38 (by decide) (fun b5 => ?_) (fun b5 => ?_)
        · have hF := zif_f b5 hF
          refine lv_iinc (v := (l2 + (1 : Int32))) (lv' := [(2, .int (l2 + (1 : Int32))), (0, .ref (ad 0)), (1, .int l1)]) hx hb dX10_register_43 hl (k := 2) rfl rfl (by decide) rfl (fun ls hl => ?_)
          refine lv_goto (tgt := 24) hx hb dX10_register_46 (by decide) ?_
          exact ih24 σ2 l1 (l2 + (1 : Int32)) _ _ _ hF hP hD hS (lv_sub hl [1, 2, 0] rfl)
        · have hF := zif_t b5 hF
          refine lv_iload_n hx hb dX10_register_41 rfl (lv_at hl 2 rfl) ?_
          exact z_iret hx hb hr hlocks hN hK hP hD hS hF dX10_register_42
  unfold FX10_register at hF
  refine lv_iload_n hx hb dX10_register_0 rfl (lv_at hl 1 rfl) ?_
  refine lv_iconst (v := (0 : Int32)) hx hb dX10_register_1 (by decide) ?_
  refine lv_iconst (v := (5 : Int32)) hx hb dX10_register_2 (by decide) ?_
  obtain ⟨r7, σ6, hC8, hF⟩ := zbd_inv hF
  refine z_calli (va_runS (As := [.int p1, .int (0 : Int32), .int (5 : Int32)]) (rest := []) ⟨hx, hb, hml, hown, hts⟩ (CX10_within l D cI cS cP ad A n σ σ6 r7 p1 (0 : Int32) (5 : Int32) hC8) (va_cwS 3 hts gX10_register_X10_within rfl rfl rfl (by decide +kernel) ⟨Nat.le_of_ble_eq_true rfl, Nat.le_of_ble_eq_true rfl⟩) (z_preS hN hK hP hD) rfl rfl hl.1 rfl (lv_room (Nat.le_of_ble_eq_true rfl)) dX10_register_3 ⟨Nat.zero_le _, Nat.zero_le _⟩) hS (fun H locs hP hD hS => ?_)
  refine lv_if_ne (tgt := 12) hx hb dX10_register_6 (by decide) (fun b9 => ?_) (fun b9 => ?_)
  · have hF := zif_f b9 hF
    refine lv_aload_n hx hb dX10_register_12 rfl (lv_at hl 0 rfl) ?_
    refine z_get (ci := 9) (C := RX10) (T := TX10) (N := 32) hx hb hts iX10_register_X10 hown hK hP (by decide) zm_0 rfl 5 (by decide) kX10_register_f77 rfl (v := .int (σ6 0 5)) rfl dX10_register_13 ?_
    refine lv_if_ne (tgt := 22) hx hb dX10_register_16 (by decide) (fun b10 => ?_) (fun b10 => ?_)
    · have hF := zif_f b10 hF
      refine lv_iconst (v := (0 : Int32)) hx hb dX10_register_22 (by decide) ?_
      refine lv_istore_n (lv' := [(2, .int (0 : Int32)), (0, .ref (ad 0)), (1, .int p1)]) hx hb dX10_register_23 rfl hl (by decide) rfl (fun ls hl => ?_)
      exact hB24 n σ6 p1 (0 : Int32) _ _ _ hF hP hD hS (lv_sub hl [1, 2, 0] rfl)
    · have hF := zif_t b10 hF
      refine lv_bipush (v := (-3 : Int32)) hx hb dX10_register_19 (by decide) ?_
      exact z_iret hx hb hr hlocks hN hK hP hD hS hF dX10_register_21
  · have hF := zif_t b9 hF
    refine lv_bipush (v := (-2 : Int32)) hx hb dX10_register_9 (by decide) ?_
    exact z_iret hx hb hr hlocks hN hK hP hD hS hF dX10_register_11
theorem kX10_turn_f25 : Cond.fieldLink RX10 25 "LeastAskedModel" "asked" "[I" ∈ wsX10_turn := by decide +kernel
theorem iX10_turn_X10 : ∀ w ∈ u_ws RX10 TX10 32, w ∈ wsX10_turn := fun _ h => List.mem_cons_of_mem _ (List.mem_append_right _ h)
set_option maxHeartbeats 4000000 in
set_option maxRecDepth 100000 in
theorem CX10_turn (l : Launch) (D : va_G) (cI cS cP : ClassId) (ad : Nat → Nat) (A : Nat → Prop) (n : Nat) (σ σ' : zMem) (r0 : Int32) (p1 : Int32) (hF : FX10_turn n σ p1 = some (r0, σ')) : Met l yX10_turn wsX10_turn ({ frames := 1, cells := 0, slots := 0, locals := 22 } : Room) (va_Pc [.ref (ad 0), .int p1] (zB (zm cI ad) 20 ad D (zty cI cS cP) A σ)) (va_Qi (fun r u => r = r0 ∧ u = σ') (zB (zm cI ad) 20 ad D (zty cI cS cP) A) A) 0 0 A := by
  refine Met.ofW (cc := cX10_turn) (maxL := 4) (ret := (some .int)) (by decide) rfl ?_
  intro p e s m args below meth c s₁ B hml hv
  obtain ⟨rfl, hP, hK, hD, hN⟩ := hv
  have hx := B.exec
  have hb := B.bytes
  have hr := B.returns
  have hts := atoms_spec (ws := wsX10_turn) B.pre
  have hown : s.vm.findClass RX10 = some m.cls := findClass_of_methodNamed B.named
  have hlocks := B.notSynchronized
  have hS : va_S A s.heap s.heap [] := va_S.rf
  have hl := lv_entry ([.ref (ad 0), .int p1]) (n := 4) (Nat.le_of_ble_eq_true rfl)
  rw [lg_entry_eq]
  generalize (lg_sl ([.ref (ad 0), .int p1]) ++ List.replicate (4 - (lg_sl ([.ref (ad 0), .int p1])).length) Slot.unset).toArray = ls at hl ⊢
  have hl : lv_has ls 4 [(0, .ref (ad 0)), (1, .int p1)] := hl
  clear B
  have hB21 : ∀ (f21 : Nat) (σ : zMem) (l1 : Int32) (l2 : Int32) (l3 : Int32), ∀ (H : Heap) (locs : List Loc) (ls : Array Slot), zlp (LX10_turn_21 n) f21 (σ, l1, l2, l3) = some (r0, σ') → va_P D vwCl (zW (zm cI ad) 20 ad σ) H → va_D A (zW (zm cI ad) 20 ad σ) → va_S A s.heap H locs → lv_has ls 4 [(0, .ref (ad 0)), (1, .int l1), (2, .int l2), (3, .int l3)] → W p l e (headSpec wsX10_turn ({ frames := 1, cells := 0, slots := 0, locals := 22 } : Room)).room s m ([.ref (ad 0), .int p1] : List Value).toArray below meth c H locs 0 0 (MQ below (va_Qi (fun r u => r = r0 ∧ u = σ') (zB (zm cI ad) 20 ad D (zty cI cS cP) A) A) ([.ref (ad 0), .int p1] : List Value).toArray s 0 0 A) (F0 m 21 ls []) := by
    intro f21
    induction f21 with
    | zero => intro σ l1 l2 l3 H locs ls hF hP hD hS hl; exact (zlp_0 hF).elim
    | succ f21 ih21 =>
      intro σ l1 l2 l3 H locs ls hF hP hD hS hl
      have hF : LBX10_turn_21 n   (zlp (LX10_turn_21 n) f21) σ l1 l2 l3 = some (r0, σ') := hF
      unfold LBX10_turn_21 at hF
      refine lv_iload_n hx hb dX10_turn_21 rfl (lv_at hl 3 rfl) ?_
      refine lv_iload_n hx hb dX10_turn_22 rfl (lv_at hl 1 rfl) ?_
      refine lv_icmp_eq (tgt := 47) hx hb dX10_turn_23 (by decide) (fun b1 => ?_) (fun b1 => ?_)
      · have hF := zif_t b1 hF
        refine lv_aload_n hx hb dX10_turn_47 rfl (lv_at hl 0 rfl) ?_
        obtain ⟨r3, σ2, hC4, hF⟩ := zbd_inv hF
        refine z_callv (va_runV (As := []) (rest := []) ⟨hx, hb, hml, hown, hts⟩ (CX10_putBack l D cI cS cP ad A n σ σ2 r3 hC4) (cwV 0 hts gX10_turn_X10_putBack rfl rfl rfl (by decide +kernel) ⟨Nat.le_of_ble_eq_true rfl, Nat.le_of_ble_eq_true rfl⟩) (z_preV hN hK hP hD (by decide) zm_0 rfl) rfl rfl hl.1 rfl (lv_room (Nat.le_of_ble_eq_true rfl)) dX10_turn_48 ⟨Nat.zero_le _, Nat.zero_le _⟩) hS (fun H locs hP hD hS => ?_)
        refine lv_iload_n hx hb dX10_turn_51 rfl (lv_at hl 2 rfl) ?_
        exact z_iret hx hb hr hlocks hN hK hP hD hS hF dX10_turn_52
      · have hF := zif_f b1 hF
        refine lv_aload_n hx hb dX10_turn_26 rfl (lv_at hl 0 rfl) ?_
        refine z_get (ci := 9) (C := RX10) (T := TX10) (N := 32) hx hb hts iX10_turn_X10 hown hK hP (by decide) zm_0 rfl 10 (by decide) kX10_turn_f25 rfl (v := .ref (ad 6)) rfl dX10_turn_27 ?_
        refine lv_iload_n hx hb dX10_turn_30 rfl (lv_at hl 3 rfl) ?_
        refine lv_dup2_11 hx hb dX10_turn_31 rfl rfl ?_
        obtain ⟨g5, hF⟩ := zgd_inv hF
        refine z_iald hx hb hK hP (by decide) (zm_a (n := 6) (by decide)) rfl g5 dX10_turn_32 ?_
        refine lv_iconst (v := (1 : Int32)) hx hb dX10_turn_33 (by decide) ?_
        refine lv_iadd hx hb dX10_turn_34 ?_
        obtain ⟨g6, hF⟩ := zgd_inv hF
        obtain ⟨σ7, eσ7, hF⟩ := zlet_inv hF
        refine z_iast hx hb hK hP hD hS (by decide) (fun _ => (zm_a (n := 6) (by decide))) rfl g6 dX10_turn_35 (fun H locs hP hD hS => ?_)
        have hP : va_P D vwCl (zW (zm cI ad) 20 ad σ7) H := by rw [eσ7]; exact hP
        have hD : va_D A (zW (zm cI ad) 20 ad σ7) := by rw [eσ7]; exact hD
        refine lv_iinc (v := (l2 + (1 : Int32))) (lv' := [(2, .int (l2 + (1 : Int32))), (0, .ref (ad 0)), (1, .int l1), (3, .int l3)]) hx hb dX10_turn_36 hl (k := 2) rfl rfl (by decide) rfl (fun ls hl => ?_)
        refine lv_aload_n hx hb dX10_turn_39 rfl (lv_at hl 1 rfl) ?_
        obtain ⟨r9, σ8, hC10, hF⟩ := zbd_inv hF
        refine z_calli (va_runV (As := []) (rest := []) ⟨hx, hb, hml, hown, hts⟩ (CX10_firstOf l D cI cS cP ad A n σ7 σ8 r9 hC10) (cwV 0 hts gX10_turn_X10_firstOf rfl rfl rfl (by decide +kernel) ⟨Nat.le_of_ble_eq_true rfl, Nat.le_of_ble_eq_true rfl⟩) (z_preV hN hK hP hD (by decide) zm_0 rfl) rfl rfl hl.1 rfl (lv_room (Nat.le_of_ble_eq_true rfl)) dX10_turn_40 ⟨Nat.zero_le _, Nat.zero_le _⟩) hS (fun H locs hP hD hS => ?_)
        refine lv_istore_n (lv' := [(3, .int r9), (2, .int (l2 + (1 : Int32))), (0, .ref (ad 0)), (1, .int l1)]) hx hb dX10_turn_43 rfl hl (by decide) rfl (fun ls hl => ?_)
        refine lv_goto (tgt := 21) hx hb dX10_turn_44 (by decide) ?_
        exact ih21 σ8 l1 (l2 + (1 : Int32)) r9 _ _ _ hF hP hD hS (lv_sub hl [2, 3, 1, 0] rfl)
  unfold FX10_turn at hF
  refine lv_aload_n hx hb dX10_turn_0 rfl (lv_at hl 0 rfl) ?_
  refine lv_iload_n hx hb dX10_turn_1 rfl (lv_at hl 1 rfl) ?_
  obtain ⟨r12, σ11, hC13, hF⟩ := zbd_inv hF
  refine z_calli (va_runV (As := [.int p1]) (rest := []) ⟨hx, hb, hml, hown, hts⟩ (CX10_isPerson l D cI cS cP ad A n σ σ11 r12 p1 hC13) (cwV 1 hts gX10_turn_X10_isPerson rfl rfl rfl (by decide +kernel) ⟨Nat.le_of_ble_eq_true rfl, Nat.le_of_ble_eq_true rfl⟩) (z_preV hN hK hP hD (by decide) zm_0 rfl) rfl rfl hl.1 rfl (lv_room (Nat.le_of_ble_eq_true rfl)) dX10_turn_2 ⟨Nat.zero_le _, Nat.zero_le _⟩) hS (fun H locs hP hD hS => ?_)
  refine lv_if_ne (tgt := 10) hx hb dX10_turn_5 (by decide) (fun b14 => ?_) (fun b14 => ?_)
  · have hF := zif_f b14 hF
    refine lv_aload_n hx hb dX10_turn_10 rfl (lv_at hl 0 rfl) ?_
    obtain ⟨r16, σ15, hC17, hF⟩ := zbd_inv hF
    refine z_callv (va_runV (As := []) (rest := []) ⟨hx, hb, hml, hown, hts⟩ (CX10_keep l D cI cS cP ad A n σ11 σ15 r16 hC17) (cwV 0 hts gX10_turn_X10_keep rfl rfl rfl (by decide +kernel) ⟨Nat.le_of_ble_eq_true rfl, Nat.le_of_ble_eq_true rfl⟩) (z_preV hN hK hP hD (by decide) zm_0 rfl) rfl rfl hl.1 rfl (lv_room (Nat.le_of_ble_eq_true rfl)) dX10_turn_11 ⟨Nat.zero_le _, Nat.zero_le _⟩) hS (fun H locs hP hD hS => ?_)
    refine lv_iconst (v := (0 : Int32)) hx hb dX10_turn_14 (by decide) ?_
    refine lv_istore_n (lv' := [(2, .int (0 : Int32)), (0, .ref (ad 0)), (1, .int p1)]) hx hb dX10_turn_15 rfl hl (by decide) rfl (fun ls hl => ?_)
    refine lv_aload_n hx hb dX10_turn_16 rfl (lv_at hl 1 rfl) ?_
    obtain ⟨r19, σ18, hC20, hF⟩ := zbd_inv hF
    refine z_calli (va_runV (As := []) (rest := []) ⟨hx, hb, hml, hown, hts⟩ (CX10_firstOf l D cI cS cP ad A n σ15 σ18 r19 hC20) (cwV 0 hts gX10_turn_X10_firstOf rfl rfl rfl (by decide +kernel) ⟨Nat.le_of_ble_eq_true rfl, Nat.le_of_ble_eq_true rfl⟩) (z_preV hN hK hP hD (by decide) zm_0 rfl) rfl rfl hl.1 rfl (lv_room (Nat.le_of_ble_eq_true rfl)) dX10_turn_17 ⟨Nat.zero_le _, Nat.zero_le _⟩) hS (fun H locs hP hD hS => ?_)
    refine lv_istore_n (lv' := [(3, .int r19), (2, .int (0 : Int32)), (0, .ref (ad 0)), (1, .int p1)]) hx hb dX10_turn_20 rfl hl (by decide) rfl (fun ls hl => ?_)
    exact hB21 n σ18 p1 (0 : Int32) r19 _ _ _ hF hP hD hS (lv_sub hl [2, 3, 1, 0] rfl)
  · have hF := zif_t b14 hF
    refine lv_iconst (v := (-1 : Int32)) hx hb dX10_turn_8 (by decide) ?_
    exact z_iret hx hb hr hlocks hN hK hP hD hS hF dX10_turn_9
theorem kX10_steer_f28 : Cond.fieldLink RX10 28 "LeastAskedModel" "knows" "[I" ∈ wsX10_steer := by decide +kernel
theorem kX10_steer_f25 : Cond.fieldLink RX10 25 "LeastAskedModel" "asked" "[I" ∈ wsX10_steer := by decide +kernel
theorem kX10_steer_f77 : Cond.fieldLink RX10 77 "LeastAskedModel" "people" "I" ∈ wsX10_steer := by decide +kernel
theorem iX10_steer_X10 : ∀ w ∈ u_ws RX10 TX10 32, w ∈ wsX10_steer := fun _ h => List.mem_cons_of_mem _ (List.mem_append_right _ h)
set_option maxHeartbeats 4000000 in
set_option maxRecDepth 100000 in
theorem CX10_steer (l : Launch) (D : va_G) (cI cS cP : ClassId) (ad : Nat → Nat) (A : Nat → Prop) (n : Nat) (σ σ' : zMem) (r0 : Int32) (p1 : Int32) (hF : FX10_steer n σ p1 = some (r0, σ')) : Met l yX10_steer wsX10_steer ({ frames := 1, cells := 0, slots := 0, locals := 22 } : Room) (va_Pc [.ref (ad 0), .int p1] (zB (zm cI ad) 20 ad D (zty cI cS cP) A σ)) (va_Qi (fun r u => r = r0 ∧ u = σ') (zB (zm cI ad) 20 ad D (zty cI cS cP) A) A) 0 0 A := by
  refine Met.ofW (cc := cX10_steer) (maxL := 5) (ret := (some .int)) (by decide) rfl ?_
  intro p e s m args below meth c s₁ B hml hv
  obtain ⟨rfl, hP, hK, hD, hN⟩ := hv
  have hx := B.exec
  have hb := B.bytes
  have hr := B.returns
  have hts := atoms_spec (ws := wsX10_steer) B.pre
  have hown : s.vm.findClass RX10 = some m.cls := findClass_of_methodNamed B.named
  have hlocks := B.notSynchronized
  have hS : va_S A s.heap s.heap [] := va_S.rf
  have hl := lv_entry ([.ref (ad 0), .int p1]) (n := 5) (Nat.le_of_ble_eq_true rfl)
  rw [lg_entry_eq]
  generalize (lg_sl ([.ref (ad 0), .int p1]) ++ List.replicate (5 - (lg_sl ([.ref (ad 0), .int p1])).length) Slot.unset).toArray = ls at hl ⊢
  have hl : lv_has ls 5 [(0, .ref (ad 0)), (1, .int p1)] := hl
  clear B
  have hB70 : ∀ (f70 : Nat) (σ : zMem) (l1 : Int32) (l2 : Int32) (l3 : Int32) (l4 : Int32), ∀ (H : Heap) (locs : List Loc) (ls : Array Slot), zlp (LX10_steer_70 n) f70 (σ, l1, l2, l3, l4) = some (r0, σ') → va_P D vwCl (zW (zm cI ad) 20 ad σ) H → va_D A (zW (zm cI ad) 20 ad σ) → va_S A s.heap H locs → lv_has ls 5 [(0, .ref (ad 0)), (1, .int l1), (2, .int l2), (3, .int l3), (4, .int l4)] → W p l e (headSpec wsX10_steer ({ frames := 1, cells := 0, slots := 0, locals := 22 } : Room)).room s m ([.ref (ad 0), .int p1] : List Value).toArray below meth c H locs 0 0 (MQ below (va_Qi (fun r u => r = r0 ∧ u = σ') (zB (zm cI ad) 20 ad D (zty cI cS cP) A) A) ([.ref (ad 0), .int p1] : List Value).toArray s 0 0 A) (F0 m 70 ls []) := by
    intro f70
    induction f70 with
    | zero => intro σ l1 l2 l3 l4 H locs ls hF hP hD hS hl; exact (zlp_0 hF).elim
    | succ f70 ih70 =>
      intro σ l1 l2 l3 l4 H locs ls hF hP hD hS hl
      have hF : LBX10_steer_70 n   (zlp (LX10_steer_70 n) f70) σ l1 l2 l3 l4 = some (r0, σ') := hF
      unfold LBX10_steer_70 at hF
      refine lv_aload_n hx hb dX10_steer_70 rfl (lv_at hl 0 rfl) ?_
      refine z_get (ci := 9) (C := RX10) (T := TX10) (N := 32) hx hb hts iX10_steer_X10 hown hK hP (by decide) zm_0 rfl 11 (by decide) kX10_steer_f28 rfl (v := .ref (ad 7)) rfl dX10_steer_71 ?_
      refine lv_iload hx hb dX10_steer_74 (lv_at hl 4 rfl) ?_
      obtain ⟨g1, hF⟩ := zgd_inv hF
      refine z_iald hx hb hK hP (by decide) (zm_a (n := 6) (by decide)) rfl g1 dX10_steer_76 ?_
      refine lv_iload_n hx hb dX10_steer_77 rfl (lv_at hl 1 rfl) ?_
      obtain ⟨r3, σ2, hC4, hF⟩ := zbd_inv hF
      refine z_calli (va_runS (As := [.int (σ 7 (l4 : Int32).toNatClampNeg), .int l1]) (rest := []) ⟨hx, hb, hml, hown, hts⟩ (CX10_isOf l D cI cS cP ad A n σ σ2 r3 (σ 7 (l4 : Int32).toNatClampNeg) l1 hC4) (va_cwS 2 hts gX10_steer_X10_isOf rfl rfl rfl (by decide +kernel) ⟨Nat.le_of_ble_eq_true rfl, Nat.le_of_ble_eq_true rfl⟩) (z_preS hN hK hP hD) rfl rfl hl.1 rfl (lv_room (Nat.le_of_ble_eq_true rfl)) dX10_steer_78 ⟨Nat.zero_le _, Nat.zero_le _⟩) hS (fun H locs hP hD hS => ?_)
      refine lv_if_ne (tgt := 107) hx hb dX10_steer_81 (by decide) (fun b5 => ?_) (fun b5 => ?_)
      · have hF := zif_f b5 hF
        refine lv_aload_n hx hb dX10_steer_107 rfl (lv_at hl 0 rfl) ?_
        obtain ⟨r7, σ6, hC8, hF⟩ := zbd_inv hF
        refine z_callv (va_runV (As := []) (rest := []) ⟨hx, hb, hml, hown, hts⟩ (CX10_putBack l D cI cS cP ad A n σ2 σ6 r7 hC8) (cwV 0 hts gX10_steer_X10_putBack rfl rfl rfl (by decide +kernel) ⟨Nat.le_of_ble_eq_true rfl, Nat.le_of_ble_eq_true rfl⟩) (z_preV hN hK hP hD (by decide) zm_0 rfl) rfl rfl hl.1 rfl (lv_room (Nat.le_of_ble_eq_true rfl)) dX10_steer_108 ⟨Nat.zero_le _, Nat.zero_le _⟩) hS (fun H locs hP hD hS => ?_)
        refine lv_iload_n hx hb dX10_steer_111 rfl (lv_at hl 3 rfl) ?_
        exact z_iret hx hb hr hlocks hN hK hP hD hS hF dX10_steer_112
      · have hF := zif_t b5 hF
        refine lv_aload_n hx hb dX10_steer_84 rfl (lv_at hl 0 rfl) ?_
        refine z_get (ci := 9) (C := RX10) (T := TX10) (N := 32) hx hb hts iX10_steer_X10 hown hK hP (by decide) zm_0 rfl 10 (by decide) kX10_steer_f25 rfl (v := .ref (ad 6)) rfl dX10_steer_85 ?_
        refine lv_iload hx hb dX10_steer_88 (lv_at hl 4 rfl) ?_
        refine lv_dup2_11 hx hb dX10_steer_90 rfl rfl ?_
        obtain ⟨g9, hF⟩ := zgd_inv hF
        refine z_iald hx hb hK hP (by decide) (zm_a (n := 6) (by decide)) rfl g9 dX10_steer_91 ?_
        refine lv_iconst (v := (1 : Int32)) hx hb dX10_steer_92 (by decide) ?_
        refine lv_iadd hx hb dX10_steer_93 ?_
        obtain ⟨g10, hF⟩ := zgd_inv hF
        obtain ⟨σ11, eσ11, hF⟩ := zlet_inv hF
        refine z_iast hx hb hK hP hD hS (by decide) (fun _ => (zm_a (n := 6) (by decide))) rfl g10 dX10_steer_94 (fun H locs hP hD hS => ?_)
        have hP : va_P D vwCl (zW (zm cI ad) 20 ad σ11) H := by rw [eσ11]; exact hP
        have hD : va_D A (zW (zm cI ad) 20 ad σ11) := by rw [eσ11]; exact hD
        refine lv_iinc (v := (l3 + (1 : Int32))) (lv' := [(3, .int (l3 + (1 : Int32))), (0, .ref (ad 0)), (1, .int l1), (2, .int l2), (4, .int l4)]) hx hb dX10_steer_95 hl (k := 3) rfl rfl (by decide) rfl (fun ls hl => ?_)
        refine lv_aload_n hx hb dX10_steer_98 rfl (lv_at hl 1 rfl) ?_
        obtain ⟨r13, σ12, hC14, hF⟩ := zbd_inv hF
        refine z_calli (va_runV (As := []) (rest := []) ⟨hx, hb, hml, hown, hts⟩ (CX10_firstOf l D cI cS cP ad A n σ11 σ12 r13 hC14) (cwV 0 hts gX10_steer_X10_firstOf rfl rfl rfl (by decide +kernel) ⟨Nat.le_of_ble_eq_true rfl, Nat.le_of_ble_eq_true rfl⟩) (z_preV hN hK hP hD (by decide) zm_0 rfl) rfl rfl hl.1 rfl (lv_room (Nat.le_of_ble_eq_true rfl)) dX10_steer_99 ⟨Nat.zero_le _, Nat.zero_le _⟩) hS (fun H locs hP hD hS => ?_)
        refine lv_istore (lv' := [(4, .int r13), (3, .int (l3 + (1 : Int32))), (0, .ref (ad 0)), (1, .int l1), (2, .int l2)]) hx hb dX10_steer_102 hl (by decide) rfl (fun ls hl => ?_)
        refine lv_goto (tgt := 70) hx hb dX10_steer_104 (by decide) ?_
        exact ih70 σ12 l1 l2 (l3 + (1 : Int32)) r13 _ _ _ hF hP hD hS (lv_sub hl [2, 3, 4, 1, 0] rfl)
  have hB14 : ∀ (f14 : Nat) (σ : zMem) (l1 : Int32) (l2 : Int32) (l3 : Int32), ∀ (H : Heap) (locs : List Loc) (ls : Array Slot), zlp (LX10_steer_14 n) f14 (σ, l1, l2, l3) = some (r0, σ') → va_P D vwCl (zW (zm cI ad) 20 ad σ) H → va_D A (zW (zm cI ad) 20 ad σ) → va_S A s.heap H locs → lv_has ls 5 [(0, .ref (ad 0)), (1, .int l1), (2, .int l2), (3, .int l3)] → W p l e (headSpec wsX10_steer ({ frames := 1, cells := 0, slots := 0, locals := 22 } : Room)).room s m ([.ref (ad 0), .int p1] : List Value).toArray below meth c H locs 0 0 (MQ below (va_Qi (fun r u => r = r0 ∧ u = σ') (zB (zm cI ad) 20 ad D (zty cI cS cP) A) A) ([.ref (ad 0), .int p1] : List Value).toArray s 0 0 A) (F0 m 14 ls []) := by
    intro f14
    induction f14 with
    | zero => intro σ l1 l2 l3 H locs ls hF hP hD hS hl; exact (zlp_0 hF).elim
    | succ f14 ih14 =>
      have hB39 : ∀ (σ : zMem) (l1 : Int32) (l2 : Int32) (l3 : Int32), ∀ (H : Heap) (locs : List Loc) (ls : Array Slot), BX10_steer_39 n (zlp (LX10_steer_14 n) f14) σ l1 l2 l3 = some (r0, σ') → va_P D vwCl (zW (zm cI ad) 20 ad σ) H → va_D A (zW (zm cI ad) 20 ad σ) → va_S A s.heap H locs → lv_has ls 5 [(0, .ref (ad 0)), (1, .int l1), (2, .int l2), (3, .int l3)] → W p l e (headSpec wsX10_steer ({ frames := 1, cells := 0, slots := 0, locals := 22 } : Room)).room s m ([.ref (ad 0), .int p1] : List Value).toArray below meth c H locs 0 0 (MQ below (va_Qi (fun r u => r = r0 ∧ u = σ') (zB (zm cI ad) 20 ad D (zty cI cS cP) A) A) ([.ref (ad 0), .int p1] : List Value).toArray s 0 0 A) (F0 m 39 ls []) := by
        intro σ l1 l2 l3 H locs ls hF hP hD hS hl
        unfold BX10_steer_39 at hF
        refine lv_iconst (v := (1 : Int32)) hx hb dX10_steer_39 (by decide) ?_
        refine lv_goto (tgt := 44) hx hb dX10_steer_40 (by decide) ?_
        refine lv_istore_n (lv' := [(2, .int (1 : Int32)), (0, .ref (ad 0)), (1, .int l1), (3, .int l3)]) hx hb dX10_steer_44 rfl hl (by decide) rfl (fun ls hl => ?_)
        refine lv_iinc (v := (l3 + (1 : Int32))) (lv' := [(3, .int (l3 + (1 : Int32))), (2, .int (1 : Int32)), (0, .ref (ad 0)), (1, .int l1)]) hx hb dX10_steer_45 hl (k := 3) rfl rfl (by decide) rfl (fun ls hl => ?_)
        refine lv_goto (tgt := 14) hx hb dX10_steer_48 (by decide) ?_
        exact ih14 σ l1 (1 : Int32) (l3 + (1 : Int32)) _ _ _ hF hP hD hS (lv_sub hl [2, 3, 1, 0] rfl)
      intro σ l1 l2 l3 H locs ls hF hP hD hS hl
      have hF : LBX10_steer_14 n   (zlp (LX10_steer_14 n) f14) σ l1 l2 l3 = some (r0, σ') := hF
      unfold LBX10_steer_14 at hF
      refine lv_iload_n hx hb dX10_steer_14 rfl (lv_at hl 3 rfl) ?_
      refine lv_aload_n hx hb dX10_steer_15 rfl (lv_at hl 0 rfl) ?_
      refine z_get (ci := 9) (C := RX10) (T := TX10) (N := 32) hx hb hts iX10_steer_X10 hown hK hP (by decide) zm_0 rfl 5 (by decide) kX10_steer_f77 rfl (v := .int (σ 0 5)) rfl dX10_steer_16 ?_
      refine lv_icmp_ge (tgt := 51) hx hb dX10_steer_19 (by decide) (fun b15 => ?_) (fun b15 => ?_)
      · have hF := zif_t b15 hF
        refine lv_iload_n hx hb dX10_steer_51 rfl (lv_at hl 2 rfl) ?_
        refine lv_if_ne (tgt := 58) hx hb dX10_steer_52 (by decide) (fun b16 => ?_) (fun b16 => ?_)
        · have hF := zif_f b16 hF
          refine lv_aload_n hx hb dX10_steer_58 rfl (lv_at hl 0 rfl) ?_
          obtain ⟨r18, σ17, hC19, hF⟩ := zbd_inv hF
          refine z_callv (va_runV (As := []) (rest := []) ⟨hx, hb, hml, hown, hts⟩ (CX10_keep l D cI cS cP ad A n σ σ17 r18 hC19) (cwV 0 hts gX10_steer_X10_keep rfl rfl rfl (by decide +kernel) ⟨Nat.le_of_ble_eq_true rfl, Nat.le_of_ble_eq_true rfl⟩) (z_preV hN hK hP hD (by decide) zm_0 rfl) rfl rfl hl.1 rfl (lv_room (Nat.le_of_ble_eq_true rfl)) dX10_steer_59 ⟨Nat.zero_le _, Nat.zero_le _⟩) hS (fun H locs hP hD hS => ?_)
          refine lv_iconst (v := (0 : Int32)) hx hb dX10_steer_62 (by decide) ?_
          refine lv_istore_n (lv' := [(3, .int (0 : Int32)), (0, .ref (ad 0)), (1, .int l1), (2, .int l2)]) hx hb dX10_steer_63 rfl hl (by decide) rfl (fun ls hl => ?_)
          refine lv_aload_n hx hb dX10_steer_64 rfl (lv_at hl 1 rfl) ?_
          obtain ⟨r21, σ20, hC22, hF⟩ := zbd_inv hF
          refine z_calli (va_runV (As := []) (rest := []) ⟨hx, hb, hml, hown, hts⟩ (CX10_firstOf l D cI cS cP ad A n σ17 σ20 r21 hC22) (cwV 0 hts gX10_steer_X10_firstOf rfl rfl rfl (by decide +kernel) ⟨Nat.le_of_ble_eq_true rfl, Nat.le_of_ble_eq_true rfl⟩) (z_preV hN hK hP hD (by decide) zm_0 rfl) rfl rfl hl.1 rfl (lv_room (Nat.le_of_ble_eq_true rfl)) dX10_steer_65 ⟨Nat.zero_le _, Nat.zero_le _⟩) hS (fun H locs hP hD hS => ?_)
          refine lv_istore (lv' := [(4, .int r21), (3, .int (0 : Int32)), (0, .ref (ad 0)), (1, .int l1), (2, .int l2)]) hx hb dX10_steer_68 hl (by decide) rfl (fun ls hl => ?_)
          exact hB70 n σ20 l1 l2 (0 : Int32) r21 _ _ _ hF hP hD hS (lv_sub hl [2, 3, 4, 1, 0] rfl)
        · have hF := zif_t b16 hF
          refine lv_bipush (v := (-9 : Int32)) hx hb dX10_steer_55 (by decide) ?_
          exact z_iret hx hb hr hlocks hN hK hP hD hS hF dX10_steer_57
      · have hF := zif_f b15 hF
        refine lv_iload_n hx hb dX10_steer_22 rfl (lv_at hl 2 rfl) ?_
        refine lv_if_ne (tgt := 39) hx hb dX10_steer_23 (by decide) (fun b23 => ?_) (fun b23 => ?_)
        · have hF := zif_f b23 hF
          exact hB39 σ l1 l2 l3 _ _ _ hF hP hD hS (lv_sub hl [0, 1, 2, 3] rfl)
        · have hF := zif_t b23 hF
          refine lv_aload_n hx hb dX10_steer_26 rfl (lv_at hl 0 rfl) ?_
          refine z_get (ci := 9) (C := RX10) (T := TX10) (N := 32) hx hb hts iX10_steer_X10 hown hK hP (by decide) zm_0 rfl 11 (by decide) kX10_steer_f28 rfl (v := .ref (ad 7)) rfl dX10_steer_27 ?_
          refine lv_iload_n hx hb dX10_steer_30 rfl (lv_at hl 3 rfl) ?_
          obtain ⟨g24, hF⟩ := zgd_inv hF
          refine z_iald hx hb hK hP (by decide) (zm_a (n := 6) (by decide)) rfl g24 dX10_steer_31 ?_
          refine lv_iload_n hx hb dX10_steer_32 rfl (lv_at hl 1 rfl) ?_
          obtain ⟨r26, σ25, hC27, hF⟩ := zbd_inv hF
          refine z_calli (va_runS (As := [.int (σ 7 (l3 : Int32).toNatClampNeg), .int l1]) (rest := []) ⟨hx, hb, hml, hown, hts⟩ (CX10_isOf l D cI cS cP ad A n σ σ25 r26 (σ 7 (l3 : Int32).toNatClampNeg) l1 hC27) (va_cwS 2 hts gX10_steer_X10_isOf rfl rfl rfl (by decide +kernel) ⟨Nat.le_of_ble_eq_true rfl, Nat.le_of_ble_eq_true rfl⟩) (z_preS hN hK hP hD) rfl rfl hl.1 rfl (lv_room (Nat.le_of_ble_eq_true rfl)) dX10_steer_33 ⟨Nat.zero_le _, Nat.zero_le _⟩) hS (fun H locs hP hD hS => ?_)
          refine lv_if_eq (tgt := 43) hx hb dX10_steer_36 (by decide) (fun b28 => ?_) (fun b28 => ?_)
          · have hF := zif_t b28 hF
            refine lv_iconst (v := (0 : Int32)) hx hb dX10_steer_43 (by decide) ?_
            refine lv_istore_n (lv' := [(2, .int (0 : Int32)), (0, .ref (ad 0)), (1, .int l1), (3, .int l3)]) hx hb dX10_steer_44 rfl hl (by decide) rfl (fun ls hl => ?_)
            refine lv_iinc (v := (l3 + (1 : Int32))) (lv' := [(3, .int (l3 + (1 : Int32))), (2, .int (0 : Int32)), (0, .ref (ad 0)), (1, .int l1)]) hx hb dX10_steer_45 hl (k := 3) rfl rfl (by decide) rfl (fun ls hl => ?_)
            refine lv_goto (tgt := 14) hx hb dX10_steer_48 (by decide) ?_
            exact ih14 σ25 l1 (0 : Int32) (l3 + (1 : Int32)) _ _ _ hF hP hD hS (lv_sub hl [2, 3, 1, 0] rfl)
          · have hF := zif_f b28 hF
            exact hB39 σ25 l1 l2 l3 _ _ _ hF hP hD hS (lv_sub hl [0, 1, 2, 3] rfl)
  unfold FX10_steer at hF
  refine lv_aload_n hx hb dX10_steer_0 rfl (lv_at hl 0 rfl) ?_
  refine lv_iload_n hx hb dX10_steer_1 rfl (lv_at hl 1 rfl) ?_
  obtain ⟨r30, σ29, hC31, hF⟩ := zbd_inv hF
  refine z_calli (va_runV (As := [.int p1]) (rest := []) ⟨hx, hb, hml, hown, hts⟩ (CX10_isMatter l D cI cS cP ad A n σ σ29 r30 p1 hC31) (cwV 1 hts gX10_steer_X10_isMatter rfl rfl rfl (by decide +kernel) ⟨Nat.le_of_ble_eq_true rfl, Nat.le_of_ble_eq_true rfl⟩) (z_preV hN hK hP hD (by decide) zm_0 rfl) rfl rfl hl.1 rfl (lv_room (Nat.le_of_ble_eq_true rfl)) dX10_steer_2 ⟨Nat.zero_le _, Nat.zero_le _⟩) hS (fun H locs hP hD hS => ?_)
  refine lv_if_ne (tgt := 10) hx hb dX10_steer_5 (by decide) (fun b32 => ?_) (fun b32 => ?_)
  · have hF := zif_f b32 hF
    refine lv_iconst (v := (0 : Int32)) hx hb dX10_steer_10 (by decide) ?_
    refine lv_istore_n (lv' := [(2, .int (0 : Int32)), (0, .ref (ad 0)), (1, .int p1)]) hx hb dX10_steer_11 rfl hl (by decide) rfl (fun ls hl => ?_)
    refine lv_iconst (v := (0 : Int32)) hx hb dX10_steer_12 (by decide) ?_
    refine lv_istore_n (lv' := [(3, .int (0 : Int32)), (2, .int (0 : Int32)), (0, .ref (ad 0)), (1, .int p1)]) hx hb dX10_steer_13 rfl hl (by decide) rfl (fun ls hl => ?_)
    exact hB14 n σ29 p1 (0 : Int32) (0 : Int32) _ _ _ hF hP hD hS (lv_sub hl [2, 3, 1, 0] rfl)
  · have hF := zif_t b32 hF
    refine lv_iconst (v := (-1 : Int32)) hx hb dX10_steer_8 (by decide) ?_
    exact z_iret hx hb hr hlocks hN hK hP hD hS hF dX10_steer_9
