/-! ===== contracts: X10_even, X10_ordersOf, X10_findRow, X10_findAsked, X10_broughtByRow, X10_planOf, X10_plan, X10_canGive, X10_tryGiven ===== -/
theorem kX10_even_f77 : Cond.fieldLink RX10 77 "LeastAskedModel" "people" "I" ∈ wsX10_even := by decide +kernel
theorem kX10_even_f25 : Cond.fieldLink RX10 25 "LeastAskedModel" "asked" "[I" ∈ wsX10_even := by decide +kernel
theorem iX10_even_X10 : ∀ w ∈ u_ws RX10 TX10 32, w ∈ wsX10_even := fun _ h => List.mem_cons_of_mem _ (List.mem_append_right _ h)
set_option maxHeartbeats 4000000 in
set_option maxRecDepth 100000 in
theorem CX10_even (l : Launch) (D : va_G) (cI cS cP : ClassId) (ad : Nat → Nat) (A : Nat → Prop) (n : Nat) (σ σ' : zMem) (r0 : Int32) (hF : FX10_even n σ = some (r0, σ')) : Met l yX10_even wsX10_even ({ frames := 0, cells := 0, slots := 0, locals := 0 } : Room) (va_Pc [.ref (ad 0)] (zB (zm cI ad) 20 ad D (zty cI cS cP) A σ)) (va_Qi (fun r u => r = r0 ∧ u = σ') (zB (zm cI ad) 20 ad D (zty cI cS cP) A) A) 0 0 A := by
  refine Met.ofW (cc := cX10_even) (maxL := 4) (ret := (some .int)) (by decide) rfl ?_
  intro p e s m args below meth c s₁ B hml hv
  obtain ⟨rfl, hP, hK, hD, hN⟩ := hv
  have hx := B.exec
  have hb := B.bytes
  have hr := B.returns
  have hts := atoms_spec (ws := wsX10_even) B.pre
  have hown : s.vm.findClass RX10 = some m.cls := findClass_of_methodNamed B.named
  have hlocks := B.notSynchronized
  have hS : va_S A s.heap s.heap [] := va_S.rf
  have hl := lv_entry ([.ref (ad 0)]) (n := 4) (Nat.le_of_ble_eq_true rfl)
  rw [lg_entry_eq]
  generalize (lg_sl ([.ref (ad 0)]) ++ List.replicate (4 - (lg_sl ([.ref (ad 0)])).length) Slot.unset).toArray = ls at hl ⊢
  have hl : lv_has ls 4 [(0, .ref (ad 0))] := hl
  clear B
  have hB53 : ∀ (f53 : Nat) (σ : zMem) (l1 : Int32) (l2 : Int32) (l3 : Int32), ∀ (H : Heap) (locs : List Loc) (ls : Array Slot), zlp (LX10_even_53 n) f53 (σ, l1, l2, l3) = some (r0, σ') → va_P D vwCl (zW (zm cI ad) 20 ad σ) H → va_D A (zW (zm cI ad) 20 ad σ) → va_S A s.heap H locs → lv_has ls 4 [(0, .ref (ad 0)), (1, .int l1), (2, .int l2), (3, .int l3)] → W p l e (headSpec wsX10_even ({ frames := 0, cells := 0, slots := 0, locals := 0 } : Room)).room s m ([.ref (ad 0)] : List Value).toArray below meth c H locs 0 0 (MQ below (va_Qi (fun r u => r = r0 ∧ u = σ') (zB (zm cI ad) 20 ad D (zty cI cS cP) A) A) ([.ref (ad 0)] : List Value).toArray s 0 0 A) (F0 m 53 ls []) := by
    intro f53
    induction f53 with
    | zero => intro σ l1 l2 l3 H locs ls hF hP hD hS hl; exact (zlp_0 hF).elim
    | succ f53 ih53 =>
      intro σ l1 l2 l3 H locs ls hF hP hD hS hl
      have hF : LBX10_even_53 n   (zlp (LX10_even_53 n) f53) σ l1 l2 l3 = some (r0, σ') := hF
      unfold LBX10_even_53 at hF
      refine lv_iload_n hx hb dX10_even_53 rfl (lv_at hl 3 rfl) ?_
      refine lv_aload_n hx hb dX10_even_54 rfl (lv_at hl 0 rfl) ?_
      refine z_get (ci := 9) (C := RX10) (T := TX10) (N := 32) hx hb hts iX10_even_X10 hown hK hP (by decide) zm_0 rfl 5 (by decide) kX10_even_f77 rfl (v := .int (σ 0 5)) rfl dX10_even_55 ?_
      refine lv_icmp_ge (tgt := 78) hx hb dX10_even_58 (by decide) (fun b1 => ?_) (fun b1 => ?_)
      · have hF := zif_t b1 hF
        refine lv_iload_n hx hb dX10_even_78 rfl (lv_at hl 2 rfl) ?_
        exact z_iret hx hb hr hlocks hN hK hP hD hS hF dX10_even_79
      · have hF := zif_f b1 hF
        refine lv_iload_n hx hb dX10_even_61 rfl (lv_at hl 2 rfl) ?_
        refine lv_iload_n hx hb dX10_even_62 rfl (lv_at hl 1 rfl) ?_
        refine lv_aload_n hx hb dX10_even_63 rfl (lv_at hl 0 rfl) ?_
        refine z_get (ci := 9) (C := RX10) (T := TX10) (N := 32) hx hb hts iX10_even_X10 hown hK hP (by decide) zm_0 rfl 10 (by decide) kX10_even_f25 rfl (v := .ref (ad 6)) rfl dX10_even_64 ?_
        refine lv_iload_n hx hb dX10_even_67 rfl (lv_at hl 3 rfl) ?_
        obtain ⟨g2, hF⟩ := zgd_inv hF
        refine z_iald hx hb hK hP (by decide) (zm_a (n := 6) (by decide)) rfl g2 dX10_even_68 ?_
        refine lv_isub hx hb dX10_even_69 ?_
        refine lv_iadd hx hb dX10_even_70 ?_
        refine lv_istore_n (lv' := [(2, .int (l2 + (l1 - (σ 6 (l3 : Int32).toNatClampNeg)))), (0, .ref (ad 0)), (1, .int l1), (3, .int l3)]) hx hb dX10_even_71 rfl hl (by decide) rfl (fun ls hl => ?_)
        refine lv_iinc (v := (l3 + (1 : Int32))) (lv' := [(3, .int (l3 + (1 : Int32))), (2, .int (l2 + (l1 - (σ 6 (l3 : Int32).toNatClampNeg)))), (0, .ref (ad 0)), (1, .int l1)]) hx hb dX10_even_72 hl (k := 3) rfl rfl (by decide) rfl (fun ls hl => ?_)
        refine lv_goto (tgt := 53) hx hb dX10_even_75 (by decide) ?_
        exact ih53 σ l1 (l2 + (l1 - (σ 6 (l3 : Int32).toNatClampNeg))) (l3 + (1 : Int32)) _ _ _ hF hP hD hS (lv_sub hl [2, 3, 1, 0] rfl)
  have hB14 : ∀ (f14 : Nat) (σ : zMem) (l1 : Int32) (l2 : Int32), ∀ (H : Heap) (locs : List Loc) (ls : Array Slot), zlp (LX10_even_14 n) f14 (σ, l1, l2) = some (r0, σ') → va_P D vwCl (zW (zm cI ad) 20 ad σ) H → va_D A (zW (zm cI ad) 20 ad σ) → va_S A s.heap H locs → lv_has ls 4 [(0, .ref (ad 0)), (1, .int l1), (2, .int l2)] → W p l e (headSpec wsX10_even ({ frames := 0, cells := 0, slots := 0, locals := 0 } : Room)).room s m ([.ref (ad 0)] : List Value).toArray below meth c H locs 0 0 (MQ below (va_Qi (fun r u => r = r0 ∧ u = σ') (zB (zm cI ad) 20 ad D (zty cI cS cP) A) A) ([.ref (ad 0)] : List Value).toArray s 0 0 A) (F0 m 14 ls []) := by
    intro f14
    induction f14 with
    | zero => intro σ l1 l2 H locs ls hF hP hD hS hl; exact (zlp_0 hF).elim
    | succ f14 ih14 =>
      intro σ l1 l2 H locs ls hF hP hD hS hl
      have hF : LBX10_even_14 n   (zlp (LX10_even_14 n) f14) σ l1 l2 = some (r0, σ') := hF
      unfold LBX10_even_14 at hF
      refine lv_iload_n hx hb dX10_even_14 rfl (lv_at hl 2 rfl) ?_
      refine lv_aload_n hx hb dX10_even_15 rfl (lv_at hl 0 rfl) ?_
      refine z_get (ci := 9) (C := RX10) (T := TX10) (N := 32) hx hb hts iX10_even_X10 hown hK hP (by decide) zm_0 rfl 5 (by decide) kX10_even_f77 rfl (v := .int (σ 0 5)) rfl dX10_even_16 ?_
      refine lv_icmp_ge (tgt := 49) hx hb dX10_even_19 (by decide) (fun b3 => ?_) (fun b3 => ?_)
      · have hF := zif_t b3 hF
        refine lv_iconst (v := (0 : Int32)) hx hb dX10_even_49 (by decide) ?_
        refine lv_istore_n (lv' := [(2, .int (0 : Int32)), (0, .ref (ad 0)), (1, .int l1)]) hx hb dX10_even_50 rfl hl (by decide) rfl (fun ls hl => ?_)
        refine lv_iconst (v := (0 : Int32)) hx hb dX10_even_51 (by decide) ?_
        refine lv_istore_n (lv' := [(3, .int (0 : Int32)), (2, .int (0 : Int32)), (0, .ref (ad 0)), (1, .int l1)]) hx hb dX10_even_52 rfl hl (by decide) rfl (fun ls hl => ?_)
        exact hB53 n σ l1 (0 : Int32) (0 : Int32) _ _ _ hF hP hD hS (lv_sub hl [2, 3, 1, 0] rfl)
      · have hF := zif_f b3 hF
        refine lv_aload_n hx hb dX10_even_22 rfl (lv_at hl 0 rfl) ?_
        refine z_get (ci := 9) (C := RX10) (T := TX10) (N := 32) hx hb hts iX10_even_X10 hown hK hP (by decide) zm_0 rfl 10 (by decide) kX10_even_f25 rfl (v := .ref (ad 6)) rfl dX10_even_23 ?_
        refine lv_iload_n hx hb dX10_even_26 rfl (lv_at hl 2 rfl) ?_
        obtain ⟨g4, hF⟩ := zgd_inv hF
        refine z_iald hx hb hK hP (by decide) (zm_a (n := 6) (by decide)) rfl g4 dX10_even_27 ?_
        refine lv_iload_n hx hb dX10_even_28 rfl (lv_at hl 1 rfl) ?_
        refine lv_icmp_le (tgt := 41) hx hb dX10_even_29 (by decide) (fun b5 => ?_) (fun b5 => ?_)
        · have hF := zif_t b5 hF
          refine lv_iload_n hx hb dX10_even_41 rfl (lv_at hl 1 rfl) ?_
          refine lv_istore_n (lv' := [(1, .int l1), (0, .ref (ad 0)), (2, .int l2)]) hx hb dX10_even_42 rfl hl (by decide) rfl (fun ls hl => ?_)
          refine lv_iinc (v := (l2 + (1 : Int32))) (lv' := [(2, .int (l2 + (1 : Int32))), (1, .int l1), (0, .ref (ad 0))]) hx hb dX10_even_43 hl (k := 2) rfl rfl (by decide) rfl (fun ls hl => ?_)
          refine lv_goto (tgt := 14) hx hb dX10_even_46 (by decide) ?_
          exact ih14 σ l1 (l2 + (1 : Int32)) _ _ _ hF hP hD hS (lv_sub hl [2, 1, 0] rfl)
        · have hF := zif_f b5 hF
          refine lv_aload_n hx hb dX10_even_32 rfl (lv_at hl 0 rfl) ?_
          refine z_get (ci := 9) (C := RX10) (T := TX10) (N := 32) hx hb hts iX10_even_X10 hown hK hP (by decide) zm_0 rfl 10 (by decide) kX10_even_f25 rfl (v := .ref (ad 6)) rfl dX10_even_33 ?_
          refine lv_iload_n hx hb dX10_even_36 rfl (lv_at hl 2 rfl) ?_
          obtain ⟨g6, hF⟩ := zgd_inv hF
          refine z_iald hx hb hK hP (by decide) (zm_a (n := 6) (by decide)) rfl g6 dX10_even_37 ?_
          refine lv_goto (tgt := 42) hx hb dX10_even_38 (by decide) ?_
          refine lv_istore_n (lv' := [(1, .int (σ 6 (l2 : Int32).toNatClampNeg)), (0, .ref (ad 0)), (2, .int l2)]) hx hb dX10_even_42 rfl hl (by decide) rfl (fun ls hl => ?_)
          refine lv_iinc (v := (l2 + (1 : Int32))) (lv' := [(2, .int (l2 + (1 : Int32))), (1, .int (σ 6 (l2 : Int32).toNatClampNeg)), (0, .ref (ad 0))]) hx hb dX10_even_43 hl (k := 2) rfl rfl (by decide) rfl (fun ls hl => ?_)
          refine lv_goto (tgt := 14) hx hb dX10_even_46 (by decide) ?_
          exact ih14 σ (σ 6 (l2 : Int32).toNatClampNeg) (l2 + (1 : Int32)) _ _ _ hF hP hD hS (lv_sub hl [2, 1, 0] rfl)
  unfold FX10_even at hF
  refine lv_aload_n hx hb dX10_even_0 rfl (lv_at hl 0 rfl) ?_
  refine z_get (ci := 9) (C := RX10) (T := TX10) (N := 32) hx hb hts iX10_even_X10 hown hK hP (by decide) zm_0 rfl 5 (by decide) kX10_even_f77 rfl (v := .int (σ 0 5)) rfl dX10_even_1 ?_
  refine lv_if_ne (tgt := 10) hx hb dX10_even_4 (by decide) (fun b7 => ?_) (fun b7 => ?_)
  · have hF := zif_f b7 hF
    refine lv_iconst (v := (0 : Int32)) hx hb dX10_even_10 (by decide) ?_
    refine lv_istore_n (lv' := [(1, .int (0 : Int32)), (0, .ref (ad 0))]) hx hb dX10_even_11 rfl hl (by decide) rfl (fun ls hl => ?_)
    refine lv_iconst (v := (0 : Int32)) hx hb dX10_even_12 (by decide) ?_
    refine lv_istore_n (lv' := [(2, .int (0 : Int32)), (1, .int (0 : Int32)), (0, .ref (ad 0))]) hx hb dX10_even_13 rfl hl (by decide) rfl (fun ls hl => ?_)
    exact hB14 n σ (0 : Int32) (0 : Int32) _ _ _ hF hP hD hS (lv_sub hl [2, 1, 0] rfl)
  · have hF := zif_t b7 hF
    refine lv_bipush (v := (-3 : Int32)) hx hb dX10_even_7 (by decide) ?_
    exact z_iret hx hb hr hlocks hN hK hP hD hS hF dX10_even_9
set_option maxHeartbeats 4000000 in
set_option maxRecDepth 100000 in
theorem CX10_ordersOf (l : Launch) (D : va_G) (cI cS cP : ClassId) (ad : Nat → Nat) (A : Nat → Prop) (n : Nat) (σ σ' : zMem) (r0 : Int32) (p1 : Int32) (hF : FX10_ordersOf n σ p1 = some (r0, σ')) : Met l yX10_ordersOf wsX10_ordersOf ({ frames := 0, cells := 0, slots := 0, locals := 0 } : Room) (va_Pc [.int p1] (zB (zm cI ad) 20 ad D (zty cI cS cP) A σ)) (va_Qi (fun r u => r = r0 ∧ u = σ') (zB (zm cI ad) 20 ad D (zty cI cS cP) A) A) 0 0 A := by
  refine Met.ofW (cc := cX10_ordersOf) (maxL := 3) (ret := (some .int)) (by decide) rfl ?_
  intro p e s m args below meth c s₁ B hml hv
  obtain ⟨rfl, hP, hK, hD, hN⟩ := hv
  have hx := B.exec
  have hb := B.bytes
  have hr := B.returns
  have hts := atoms_spec (ws := wsX10_ordersOf) B.pre
  have hown : s.vm.findClass RX10 = some m.cls := findClass_of_methodNamed B.named
  have hlocks := B.notSynchronized
  have hS : va_S A s.heap s.heap [] := va_S.rf
  have hl := lv_entry ([.int p1]) (n := 3) (Nat.le_of_ble_eq_true rfl)
  rw [lg_entry_eq]
  generalize (lg_sl ([.int p1]) ++ List.replicate (3 - (lg_sl ([.int p1])).length) Slot.unset).toArray = ls at hl ⊢
  have hl : lv_has ls 3 [(0, .int p1)] := hl
  clear B
  have hB4 : ∀ (f4 : Nat) (σ : zMem) (l0 : Int32) (l1 : Int32) (l2 : Int32), ∀ (H : Heap) (locs : List Loc) (ls : Array Slot), zlp (LX10_ordersOf_4 n) f4 (σ, l0, l1, l2) = some (r0, σ') → va_P D vwCl (zW (zm cI ad) 20 ad σ) H → va_D A (zW (zm cI ad) 20 ad σ) → va_S A s.heap H locs → lv_has ls 3 [(0, .int l0), (1, .int l1), (2, .int l2)] → W p l e (headSpec wsX10_ordersOf ({ frames := 0, cells := 0, slots := 0, locals := 0 } : Room)).room s m ([.int p1] : List Value).toArray below meth c H locs 0 0 (MQ below (va_Qi (fun r u => r = r0 ∧ u = σ') (zB (zm cI ad) 20 ad D (zty cI cS cP) A) A) ([.int p1] : List Value).toArray s 0 0 A) (F0 m 4 ls []) := by
    intro f4
    induction f4 with
    | zero => intro σ l0 l1 l2 H locs ls hF hP hD hS hl; exact (zlp_0 hF).elim
    | succ f4 ih4 =>
      intro σ l0 l1 l2 H locs ls hF hP hD hS hl
      have hF : LBX10_ordersOf_4 n   (zlp (LX10_ordersOf_4 n) f4) σ l0 l1 l2 = some (r0, σ') := hF
      unfold LBX10_ordersOf_4 at hF
      refine lv_iload_n hx hb dX10_ordersOf_4 rfl (lv_at hl 2 rfl) ?_
      refine lv_iload_n hx hb dX10_ordersOf_5 rfl (lv_at hl 0 rfl) ?_
      refine lv_icmp_gt (tgt := 19) hx hb dX10_ordersOf_6 (by decide) (fun b1 => ?_) (fun b1 => ?_)
      · have hF := zif_t b1 hF
        refine lv_iload_n hx hb dX10_ordersOf_19 rfl (lv_at hl 1 rfl) ?_
        exact z_iret hx hb hr hlocks hN hK hP hD hS hF dX10_ordersOf_20
      · have hF := zif_f b1 hF
        refine lv_iload_n hx hb dX10_ordersOf_9 rfl (lv_at hl 1 rfl) ?_
        refine lv_iload_n hx hb dX10_ordersOf_10 rfl (lv_at hl 2 rfl) ?_
        refine lv_imul hx hb dX10_ordersOf_11 ?_
        refine lv_istore_n (lv' := [(1, .int (l1 * l2)), (0, .int l0), (2, .int l2)]) hx hb dX10_ordersOf_12 rfl hl (by decide) rfl (fun ls hl => ?_)
        refine lv_iinc (v := (l2 + (1 : Int32))) (lv' := [(2, .int (l2 + (1 : Int32))), (1, .int (l1 * l2)), (0, .int l0)]) hx hb dX10_ordersOf_13 hl (k := 2) rfl rfl (by decide) rfl (fun ls hl => ?_)
        refine lv_goto (tgt := 4) hx hb dX10_ordersOf_16 (by decide) ?_
        exact ih4 σ l0 (l1 * l2) (l2 + (1 : Int32)) _ _ _ hF hP hD hS (lv_sub hl [2, 1, 0] rfl)
  unfold FX10_ordersOf at hF
  refine lv_iconst (v := (1 : Int32)) hx hb dX10_ordersOf_0 (by decide) ?_
  refine lv_istore_n (lv' := [(1, .int (1 : Int32)), (0, .int p1)]) hx hb dX10_ordersOf_1 rfl hl (by decide) rfl (fun ls hl => ?_)
  refine lv_iconst (v := (2 : Int32)) hx hb dX10_ordersOf_2 (by decide) ?_
  refine lv_istore_n (lv' := [(2, .int (2 : Int32)), (1, .int (1 : Int32)), (0, .int p1)]) hx hb dX10_ordersOf_3 rfl hl (by decide) rfl (fun ls hl => ?_)
  exact hB4 n σ p1 (1 : Int32) (2 : Int32) _ _ _ hF hP hD hS (lv_sub hl [2, 1, 0] rfl)
theorem kX10_findRow_f46 : Cond.fieldLink RX10 46 "LeastAskedModel" "row" "[I" ∈ wsX10_findRow := by decide +kernel
theorem iX10_findRow_X10 : ∀ w ∈ u_ws RX10 TX10 32, w ∈ wsX10_findRow := fun _ h => List.mem_cons_of_mem _ (List.mem_append_right _ h)
set_option maxHeartbeats 4000000 in
set_option maxRecDepth 100000 in
theorem CX10_findRow (l : Launch) (D : va_G) (cI cS cP : ClassId) (ad : Nat → Nat) (A : Nat → Prop) (n : Nat) (σ σ' : zMem) (r0 : Int32) (p1 : Int32) (p2 : Int32) (hF : FX10_findRow n σ p1 p2 = some (r0, σ')) : Met l yX10_findRow wsX10_findRow ({ frames := 1, cells := 0, slots := 0, locals := 22 } : Room) (va_Pc [.ref (ad 0), .int p1, .int p2] (zB (zm cI ad) 20 ad D (zty cI cS cP) A σ)) (va_Qv (fun u => u = σ') (zB (zm cI ad) 20 ad D (zty cI cS cP) A) A) 0 0 A := by
  refine Met.ofW (cc := cX10_findRow) (maxL := 9) (ret := none) (by decide) rfl ?_
  intro p e s m args below meth c s₁ B hml hv
  obtain ⟨rfl, hP, hK, hD, hN⟩ := hv
  have hx := B.exec
  have hb := B.bytes
  have hr := B.returns
  have hts := atoms_spec (ws := wsX10_findRow) B.pre
  have hown : s.vm.findClass RX10 = some m.cls := findClass_of_methodNamed B.named
  have hlocks := B.notSynchronized
  have hS : va_S A s.heap s.heap [] := va_S.rf
  have hl := lv_entry ([.ref (ad 0), .int p1, .int p2]) (n := 9) (Nat.le_of_ble_eq_true rfl)
  rw [lg_entry_eq]
  generalize (lg_sl ([.ref (ad 0), .int p1, .int p2]) ++ List.replicate (9 - (lg_sl ([.ref (ad 0), .int p1, .int p2])).length) Slot.unset).toArray = ls at hl ⊢
  have hl : lv_has ls 9 [(0, .ref (ad 0)), (1, .int p1), (2, .int p2)] := hl
  clear B
  have hB16 : ∀ (f16 : Nat) (σ : zMem) (l1 : Int32) (l2 : Int32) (l3 : Int32) (l4 : Int32) (l5 : Int32) (l6 : Int32), ∀ (H : Heap) (locs : List Loc) (ls : Array Slot), zlp (LX10_findRow_16 n) f16 (σ, l1, l2, l3, l4, l5, l6) = some (r0, σ') → va_P D vwCl (zW (zm cI ad) 20 ad σ) H → va_D A (zW (zm cI ad) 20 ad σ) → va_S A s.heap H locs → lv_has ls 9 [(0, .ref (ad 0)), (1, .int l1), (2, .int l2), (3, .int l3), (4, .int l4), (5, .int l5), (6, .int l6)] → W p l e (headSpec wsX10_findRow ({ frames := 1, cells := 0, slots := 0, locals := 22 } : Room)).room s m ([.ref (ad 0), .int p1, .int p2] : List Value).toArray below meth c H locs 0 0 (MQ below (va_Qv (fun u => u = σ') (zB (zm cI ad) 20 ad D (zty cI cS cP) A) A) ([.ref (ad 0), .int p1, .int p2] : List Value).toArray s 0 0 A) (F0 m 16 ls []) := by
    intro f16
    induction f16 with
    | zero => intro σ l1 l2 l3 l4 l5 l6 H locs ls hF hP hD hS hl; exact (zlp_0 hF).elim
    | succ f16 ih16 =>
      have hB36 : ∀ (f36 : Nat) (σ : zMem) (l1 : Int32) (l2 : Int32) (l3 : Int32) (l4 : Int32) (l5 : Int32) (l6 : Int32) (l7 : Int32) (l8 : Int32), ∀ (H : Heap) (locs : List Loc) (ls : Array Slot), zlp (LX10_findRow_36 n (zlp (LX10_findRow_16 n) f16)) f36 (σ, l1, l2, l3, l4, l5, l6, l7, l8) = some (r0, σ') → va_P D vwCl (zW (zm cI ad) 20 ad σ) H → va_D A (zW (zm cI ad) 20 ad σ) → va_S A s.heap H locs → lv_has ls 9 [(0, .ref (ad 0)), (1, .int l1), (2, .int l2), (3, .int l3), (4, .int l4), (5, .int l5), (6, .int l6), (7, .int l7), (8, .int l8)] → W p l e (headSpec wsX10_findRow ({ frames := 1, cells := 0, slots := 0, locals := 22 } : Room)).room s m ([.ref (ad 0), .int p1, .int p2] : List Value).toArray below meth c H locs 0 0 (MQ below (va_Qv (fun u => u = σ') (zB (zm cI ad) 20 ad D (zty cI cS cP) A) A) ([.ref (ad 0), .int p1, .int p2] : List Value).toArray s 0 0 A) (F0 m 36 ls []) := by
        intro f36
        induction f36 with
        | zero => intro σ l1 l2 l3 l4 l5 l6 l7 l8 H locs ls hF hP hD hS hl; exact (zlp_0 hF).elim
        | succ f36 ih36 =>
          have hB68 : ∀ (σ : zMem) (l1 : Int32) (l2 : Int32) (l3 : Int32) (l4 : Int32) (l5 : Int32) (l6 : Int32) (l7 : Int32) (l8 : Int32) (s0 : Int32) (s1 : Int32), ∀ (H : Heap) (locs : List Loc) (ls : Array Slot), BX10_findRow_68 n (zlp (LX10_findRow_16 n) f16) (zlp (LX10_findRow_36 n (zlp (LX10_findRow_16 n) f16)) f36) σ l1 l2 l3 l4 l5 l6 l7 l8 s0 s1 = some (r0, σ') → va_P D vwCl (zW (zm cI ad) 20 ad σ) H → va_D A (zW (zm cI ad) 20 ad σ) → va_S A s.heap H locs → lv_has ls 9 [(0, .ref (ad 0)), (1, .int l1), (2, .int l2), (3, .int l3), (4, .int l4), (5, .int l5), (6, .int l6), (7, .int l7), (8, .int l8)] → W p l e (headSpec wsX10_findRow ({ frames := 1, cells := 0, slots := 0, locals := 22 } : Room)).room s m ([.ref (ad 0), .int p1, .int p2] : List Value).toArray below meth c H locs 0 0 (MQ below (va_Qv (fun u => u = σ') (zB (zm cI ad) 20 ad D (zty cI cS cP) A) A) ([.ref (ad 0), .int p1, .int p2] : List Value).toArray s 0 0 A) (F0 m 68 ls [.int s1, .int s0]) := by
            intro σ l1 l2 l3 l4 l5 l6 l7 l8 s0 s1 H locs ls hF hP hD hS hl
            unfold BX10_findRow_68 at hF
            refine lv_isub hx hb dX10_findRow_68 ?_
            refine lv_istore (lv' := [(7, .int (s0 - s1)), (0, .ref (ad 0)), (1, .int l1), (2, .int l2), (3, .int l3), (4, .int l4), (5, .int l5), (6, .int l6), (8, .int l8)]) hx hb dX10_findRow_69 hl (by decide) rfl (fun ls hl => ?_)
            refine lv_iinc (v := (l8 + (1 : Int32))) (lv' := [(8, .int (l8 + (1 : Int32))), (7, .int (s0 - s1)), (0, .ref (ad 0)), (1, .int l1), (2, .int l2), (3, .int l3), (4, .int l4), (5, .int l5), (6, .int l6)]) hx hb dX10_findRow_71 hl (k := 8) rfl rfl (by decide) rfl (fun ls hl => ?_)
            refine lv_goto (tgt := 36) hx hb dX10_findRow_74 (by decide) ?_
            exact ih36 σ l1 l2 l3 l4 l5 l6 (s0 - s1) (l8 + (1 : Int32)) _ _ _ hF hP hD hS (lv_sub hl [2, 3, 4, 5, 6, 7, 8, 1, 0] rfl)
          have hB51 : ∀ (σ : zMem) (l1 : Int32) (l2 : Int32) (l3 : Int32) (l4 : Int32) (l5 : Int32) (l6 : Int32) (l7 : Int32) (l8 : Int32), ∀ (H : Heap) (locs : List Loc) (ls : Array Slot), BX10_findRow_51 n (zlp (LX10_findRow_16 n) f16) (zlp (LX10_findRow_36 n (zlp (LX10_findRow_16 n) f16)) f36) σ l1 l2 l3 l4 l5 l6 l7 l8 = some (r0, σ') → va_P D vwCl (zW (zm cI ad) 20 ad σ) H → va_D A (zW (zm cI ad) 20 ad σ) → va_S A s.heap H locs → lv_has ls 9 [(0, .ref (ad 0)), (1, .int l1), (2, .int l2), (3, .int l3), (4, .int l4), (5, .int l5), (6, .int l6), (7, .int l7), (8, .int l8)] → W p l e (headSpec wsX10_findRow ({ frames := 1, cells := 0, slots := 0, locals := 22 } : Room)).room s m ([.ref (ad 0), .int p1, .int p2] : List Value).toArray below meth c H locs 0 0 (MQ below (va_Qv (fun u => u = σ') (zB (zm cI ad) 20 ad D (zty cI cS cP) A) A) ([.ref (ad 0), .int p1, .int p2] : List Value).toArray s 0 0 A) (F0 m 51 ls []) := by
            intro σ l1 l2 l3 l4 l5 l6 l7 l8 H locs ls hF hP hD hS hl
            unfold BX10_findRow_51 at hF
            refine lv_iload hx hb dX10_findRow_51 (lv_at hl 7 rfl) ?_
            refine lv_iload hx hb dX10_findRow_53 (lv_at hl 5 rfl) ?_
            refine lv_iload hx hb dX10_findRow_55 (lv_at hl 8 rfl) ?_
            obtain ⟨r2, σ1, hC3, hF⟩ := zbd_inv hF
            refine z_calli (va_runS (As := [.int l5, .int l8]) (rest := [.int l7]) ⟨hx, hb, hml, hown, hts⟩ (CX10_isOf l D cI cS cP ad A n σ σ1 r2 l5 l8 hC3) (va_cwS 2 hts gX10_findRow_X10_isOf rfl rfl rfl (by decide +kernel) ⟨Nat.le_of_ble_eq_true rfl, Nat.le_of_ble_eq_true rfl⟩) (z_preS hN hK hP hD) rfl rfl hl.1 rfl (lv_room (Nat.le_of_ble_eq_true rfl)) dX10_findRow_57 ⟨Nat.zero_le _, Nat.zero_le _⟩) hS (fun H locs hP hD hS => ?_)
            refine lv_if_eq (tgt := 67) hx hb dX10_findRow_60 (by decide) (fun b4 => ?_) (fun b4 => ?_)
            · have hF := zif_t b4 hF
              refine lv_iconst (v := (1 : Int32)) hx hb dX10_findRow_67 (by decide) ?_
              exact hB68 σ1 l1 l2 l3 l4 l5 l6 l7 l8 l7 (1 : Int32) _ _ _ hF hP hD hS (lv_sub hl [0, 1, 2, 3, 4, 5, 6, 7, 8] rfl)
            · have hF := zif_f b4 hF
              refine lv_iconst (v := (0 : Int32)) hx hb dX10_findRow_63 (by decide) ?_
              refine lv_goto (tgt := 68) hx hb dX10_findRow_64 (by decide) ?_
              exact hB68 σ1 l1 l2 l3 l4 l5 l6 l7 l8 l7 (0 : Int32) _ _ _ hF hP hD hS (lv_sub hl [0, 1, 2, 3, 4, 5, 6, 7, 8] rfl)
          intro σ l1 l2 l3 l4 l5 l6 l7 l8 H locs ls hF hP hD hS hl
          have hF : LBX10_findRow_36 n  (zlp (LX10_findRow_16 n) f16) (zlp (LX10_findRow_36 n (zlp (LX10_findRow_16 n) f16)) f36) σ l1 l2 l3 l4 l5 l6 l7 l8 = some (r0, σ') := hF
          unfold LBX10_findRow_36 at hF
          refine lv_iload hx hb dX10_findRow_36 (lv_at hl 5 rfl) ?_
          refine lv_iload hx hb dX10_findRow_38 (lv_at hl 8 rfl) ?_
          obtain ⟨r6, σ5, hC7, hF⟩ := zbd_inv hF
          refine z_calli (va_runS (As := [.int l5, .int l8]) (rest := []) ⟨hx, hb, hml, hown, hts⟩ (CX10_isOf l D cI cS cP ad A n σ σ5 r6 l5 l8 hC7) (va_cwS 2 hts gX10_findRow_X10_isOf rfl rfl rfl (by decide +kernel) ⟨Nat.le_of_ble_eq_true rfl, Nat.le_of_ble_eq_true rfl⟩) (z_preS hN hK hP hD) rfl rfl hl.1 rfl (lv_room (Nat.le_of_ble_eq_true rfl)) dX10_findRow_40 ⟨Nat.zero_le _, Nat.zero_le _⟩) hS (fun H locs hP hD hS => ?_)
          refine lv_if_ne (tgt := 51) hx hb dX10_findRow_43 (by decide) (fun b8 => ?_) (fun b8 => ?_)
          · have hF := zif_f b8 hF
            exact hB51 σ5 l1 l2 l3 l4 l5 l6 l7 l8 _ _ _ hF hP hD hS (lv_sub hl [0, 1, 2, 3, 4, 5, 6, 7, 8] rfl)
          · have hF := zif_t b8 hF
            refine lv_iload hx hb dX10_findRow_46 (lv_at hl 7 rfl) ?_
            refine lv_if_le (tgt := 77) hx hb dX10_findRow_48 (by decide) (fun b9 => ?_) (fun b9 => ?_)
            · have hF := zif_t b9 hF
              refine lv_aload_n hx hb dX10_findRow_77 rfl (lv_at hl 0 rfl) ?_
              refine z_get (ci := 9) (C := RX10) (T := TX10) (N := 32) hx hb hts iX10_findRow_X10 hown hK hP (by decide) zm_0 rfl 22 (by decide) kX10_findRow_f46 rfl (v := .ref (ad 13)) rfl dX10_findRow_78 ?_
              refine lv_iload hx hb dX10_findRow_81 (lv_at hl 6 rfl) ?_
              refine lv_iload hx hb dX10_findRow_83 (lv_at hl 8 rfl) ?_
              obtain ⟨g10, hF⟩ := zgd_inv hF
              obtain ⟨σ11, eσ11, hF⟩ := zlet_inv hF
              refine z_iast hx hb hK hP hD hS (by decide) (fun _ => (zm_a (n := 7) (by decide))) rfl g10 dX10_findRow_85 (fun H locs hP hD hS => ?_)
              have hP : va_P D vwCl (zW (zm cI ad) 20 ad σ11) H := by rw [eσ11]; exact hP
              have hD : va_D A (zW (zm cI ad) 20 ad σ11) := by rw [eσ11]; exact hD
              refine lv_iload hx hb dX10_findRow_86 (lv_at hl 5 rfl) ?_
              refine lv_iconst (v := (1 : Int32)) hx hb dX10_findRow_88 (by decide) ?_
              refine lv_iload hx hb dX10_findRow_89 (lv_at hl 8 rfl) ?_
              refine lv_ishl hx hb dX10_findRow_91 ?_
              refine lv_ior hx hb dX10_findRow_92 ?_
              refine lv_istore (lv' := [(5, .int (l5 ||| ((1 : Int32) <<< (l8 &&& 31)))), (0, .ref (ad 0)), (1, .int l1), (2, .int l2), (3, .int l3), (4, .int l4), (6, .int l6), (7, .int l7), (8, .int l8)]) hx hb dX10_findRow_93 hl (by decide) rfl (fun ls hl => ?_)
              refine lv_iload_n hx hb dX10_findRow_95 rfl (lv_at hl 3 rfl) ?_
              refine lv_iload hx hb dX10_findRow_96 (lv_at hl 6 rfl) ?_
              refine lv_isub hx hb dX10_findRow_98 ?_
              refine lv_iconst (v := (1 : Int32)) hx hb dX10_findRow_99 (by decide) ?_
              refine lv_isub hx hb dX10_findRow_100 ?_
              refine lv_iconst (v := (1 : Int32)) hx hb dX10_findRow_101 (by decide) ?_
              refine lv_icmp_le (tgt := 117) hx hb dX10_findRow_102 (by decide) (fun b12 => ?_) (fun b12 => ?_)
              · have hF := zif_t b12 hF
                refine lv_iconst (v := (1 : Int32)) hx hb dX10_findRow_117 (by decide) ?_
                refine lv_istore (lv' := [(4, .int (1 : Int32)), (5, .int (l5 ||| ((1 : Int32) <<< (l8 &&& 31)))), (0, .ref (ad 0)), (1, .int l1), (2, .int l2), (3, .int l3), (6, .int l6), (7, .int l7), (8, .int l8)]) hx hb dX10_findRow_118 hl (by decide) rfl (fun ls hl => ?_)
                refine lv_iinc (v := (l6 + (1 : Int32))) (lv' := [(6, .int (l6 + (1 : Int32))), (4, .int (1 : Int32)), (5, .int (l5 ||| ((1 : Int32) <<< (l8 &&& 31)))), (0, .ref (ad 0)), (1, .int l1), (2, .int l2), (3, .int l3), (7, .int l7), (8, .int l8)]) hx hb dX10_findRow_120 hl (k := 6) rfl rfl (by decide) rfl (fun ls hl => ?_)
                refine lv_goto (tgt := 16) hx hb dX10_findRow_123 (by decide) ?_
                exact ih16 σ11 l1 l2 l3 (1 : Int32) (l5 ||| ((1 : Int32) <<< (l8 &&& 31))) (l6 + (1 : Int32)) _ _ _ hF hP hD hS (lv_sub hl [3, 4, 5, 6, 1, 2, 0] rfl)
              · have hF := zif_f b12 hF
                refine lv_iload hx hb dX10_findRow_105 (lv_at hl 5 rfl) ?_
                refine lv_iload_n hx hb dX10_findRow_107 rfl (lv_at hl 3 rfl) ?_
                refine lv_iload hx hb dX10_findRow_108 (lv_at hl 6 rfl) ?_
                refine lv_isub hx hb dX10_findRow_110 ?_
                refine lv_iconst (v := (1 : Int32)) hx hb dX10_findRow_111 (by decide) ?_
                refine lv_isub hx hb dX10_findRow_112 ?_
                obtain ⟨g13, hF⟩ := zgd_inv hF
                refine lv_idiv hx hb dX10_findRow_113 g13 ?_
                refine lv_goto (tgt := 118) hx hb dX10_findRow_114 (by decide) ?_
                refine lv_istore (lv' := [(4, .int (l4 / ((l2 - l6) - (1 : Int32)))), (5, .int (l5 ||| ((1 : Int32) <<< (l8 &&& 31)))), (0, .ref (ad 0)), (1, .int l1), (2, .int l2), (3, .int l3), (6, .int l6), (7, .int l7), (8, .int l8)]) hx hb dX10_findRow_118 hl (by decide) rfl (fun ls hl => ?_)
                refine lv_iinc (v := (l6 + (1 : Int32))) (lv' := [(6, .int (l6 + (1 : Int32))), (4, .int (l4 / ((l2 - l6) - (1 : Int32)))), (5, .int (l5 ||| ((1 : Int32) <<< (l8 &&& 31)))), (0, .ref (ad 0)), (1, .int l1), (2, .int l2), (3, .int l3), (7, .int l7), (8, .int l8)]) hx hb dX10_findRow_120 hl (k := 6) rfl rfl (by decide) rfl (fun ls hl => ?_)
                refine lv_goto (tgt := 16) hx hb dX10_findRow_123 (by decide) ?_
                exact ih16 σ11 l1 l2 l3 (l4 / ((l2 - l6) - (1 : Int32))) (l5 ||| ((1 : Int32) <<< (l8 &&& 31))) (l6 + (1 : Int32)) _ _ _ hF hP hD hS (lv_sub hl [3, 4, 5, 6, 1, 2, 0] rfl)
            · have hF := zif_f b9 hF
              exact hB51 σ5 l1 l2 l3 l4 l5 l6 l7 l8 _ _ _ hF hP hD hS (lv_sub hl [0, 1, 2, 3, 4, 5, 6, 7, 8] rfl)
      intro σ l1 l2 l3 l4 l5 l6 H locs ls hF hP hD hS hl
      have hF : LBX10_findRow_16 n   (zlp (LX10_findRow_16 n) f16) σ l1 l2 l3 l4 l5 l6 = some (r0, σ') := hF
      unfold LBX10_findRow_16 at hF
      refine lv_iload hx hb dX10_findRow_16 (lv_at hl 6 rfl) ?_
      refine lv_iload_n hx hb dX10_findRow_18 rfl (lv_at hl 2 rfl) ?_
      refine lv_icmp_ge (tgt := 126) hx hb dX10_findRow_19 (by decide) (fun b14 => ?_) (fun b14 => ?_)
      · have hF := zif_t b14 hF
        exact z_vret hx hb hr hlocks hN hK hP hD hS hF dX10_findRow_126
      · have hF := zif_f b14 hF
        refine lv_iload_n hx hb dX10_findRow_22 rfl (lv_at hl 3 rfl) ?_
        refine lv_iload hx hb dX10_findRow_23 (lv_at hl 4 rfl) ?_
        obtain ⟨g15, hF⟩ := zgd_inv hF
        refine lv_idiv hx hb dX10_findRow_25 g15 ?_
        refine lv_istore (lv' := [(7, .int (l3 / l4)), (0, .ref (ad 0)), (1, .int l1), (2, .int l2), (3, .int l3), (4, .int l4), (5, .int l5), (6, .int l6)]) hx hb dX10_findRow_26 hl (by decide) rfl (fun ls hl => ?_)
        refine lv_iload_n hx hb dX10_findRow_28 rfl (lv_at hl 4 rfl) ?_
        refine lv_iload hx hb dX10_findRow_29 (lv_at hl 5 rfl) ?_
        obtain ⟨g16, hF⟩ := zgd_inv hF
        refine lv_irem hx hb dX10_findRow_31 g16 ?_
        refine lv_istore_n (lv' := [(3, .int (l3 - l3 / l4 * l4)), (7, .int (l3 / l4)), (0, .ref (ad 0)), (1, .int l1), (2, .int l2), (4, .int l4), (5, .int l5), (6, .int l6)]) hx hb dX10_findRow_32 rfl hl (by decide) rfl (fun ls hl => ?_)
        refine lv_iconst (v := (0 : Int32)) hx hb dX10_findRow_33 (by decide) ?_
        refine lv_istore (lv' := [(8, .int (0 : Int32)), (3, .int (l3 - l3 / l4 * l4)), (7, .int (l3 / l4)), (0, .ref (ad 0)), (1, .int l1), (2, .int l2), (4, .int l4), (5, .int l5), (6, .int l6)]) hx hb dX10_findRow_34 hl (by decide) rfl (fun ls hl => ?_)
        exact hB36 n σ l1 l2 (l3 - l3 / l4 * l4) l4 l5 l6 (l3 / l4) (0 : Int32) _ _ _ hF hP hD hS (lv_sub hl [3, 4, 5, 1, 6, 7, 8, 2, 0] rfl)
  unfold FX10_findRow at hF
  refine lv_iload_n hx hb dX10_findRow_0 rfl (lv_at hl 1 rfl) ?_
  refine lv_istore_n (lv' := [(3, .int p1), (0, .ref (ad 0)), (1, .int p1), (2, .int p2)]) hx hb dX10_findRow_1 rfl hl (by decide) rfl (fun ls hl => ?_)
  refine lv_iload_n hx hb dX10_findRow_2 rfl (lv_at hl 3 rfl) ?_
  refine lv_iconst (v := (1 : Int32)) hx hb dX10_findRow_3 (by decide) ?_
  refine lv_isub hx hb dX10_findRow_4 ?_
  obtain ⟨r18, σ17, hC19, hF⟩ := zbd_inv hF
  refine z_calli (va_runS (As := [.int (p2 - (1 : Int32))]) (rest := []) ⟨hx, hb, hml, hown, hts⟩ (CX10_ordersOf l D cI cS cP ad A n σ σ17 r18 (p2 - (1 : Int32)) hC19) (va_cwS 1 hts gX10_findRow_X10_ordersOf rfl rfl rfl (by decide +kernel) ⟨Nat.le_of_ble_eq_true rfl, Nat.le_of_ble_eq_true rfl⟩) (z_preS hN hK hP hD) rfl rfl hl.1 rfl (lv_room (Nat.le_of_ble_eq_true rfl)) dX10_findRow_5 ⟨Nat.zero_le _, Nat.zero_le _⟩) hS (fun H locs hP hD hS => ?_)
  refine lv_istore (lv' := [(4, .int r18), (3, .int p1), (0, .ref (ad 0)), (1, .int p1), (2, .int p2)]) hx hb dX10_findRow_8 hl (by decide) rfl (fun ls hl => ?_)
  refine lv_iconst (v := (0 : Int32)) hx hb dX10_findRow_10 (by decide) ?_
  refine lv_istore (lv' := [(5, .int (0 : Int32)), (4, .int r18), (3, .int p1), (0, .ref (ad 0)), (1, .int p1), (2, .int p2)]) hx hb dX10_findRow_11 hl (by decide) rfl (fun ls hl => ?_)
  refine lv_iconst (v := (0 : Int32)) hx hb dX10_findRow_13 (by decide) ?_
  refine lv_istore (lv' := [(6, .int (0 : Int32)), (5, .int (0 : Int32)), (4, .int r18), (3, .int p1), (0, .ref (ad 0)), (1, .int p1), (2, .int p2)]) hx hb dX10_findRow_14 hl (by decide) rfl (fun ls hl => ?_)
  exact hB16 n σ17 p1 p2 p1 r18 (0 : Int32) (0 : Int32) _ _ _ hF hP hD hS (lv_sub hl [4, 5, 6, 3, 2, 1, 0] rfl)
theorem kX10_findAsked_f49 : Cond.fieldLink RX10 49 "LeastAskedModel" "askedThen" "[I" ∈ wsX10_findAsked := by decide +kernel
theorem kX10_findAsked_f25 : Cond.fieldLink RX10 25 "LeastAskedModel" "asked" "[I" ∈ wsX10_findAsked := by decide +kernel
theorem iX10_findAsked_X10 : ∀ w ∈ u_ws RX10 TX10 32, w ∈ wsX10_findAsked := fun _ h => List.mem_cons_of_mem _ (List.mem_append_right _ h)
set_option maxHeartbeats 4000000 in
set_option maxRecDepth 100000 in
theorem CX10_findAsked (l : Launch) (D : va_G) (cI cS cP : ClassId) (ad : Nat → Nat) (A : Nat → Prop) (n : Nat) (σ σ' : zMem) (r0 : Int32) (p1 : Int32) (hF : FX10_findAsked n σ p1 = some (r0, σ')) : Met l yX10_findAsked wsX10_findAsked ({ frames := 1, cells := 0, slots := 0, locals := 22 } : Room) (va_Pc [.ref (ad 0), .int p1] (zB (zm cI ad) 20 ad D (zty cI cS cP) A σ)) (va_Qv (fun u => u = σ') (zB (zm cI ad) 20 ad D (zty cI cS cP) A) A) 0 0 A := by
  refine Met.ofW (cc := cX10_findAsked) (maxL := 3) (ret := none) (by decide) rfl ?_
  intro p e s m args below meth c s₁ B hml hv
  obtain ⟨rfl, hP, hK, hD, hN⟩ := hv
  have hx := B.exec
  have hb := B.bytes
  have hr := B.returns
  have hts := atoms_spec (ws := wsX10_findAsked) B.pre
  have hown : s.vm.findClass RX10 = some m.cls := findClass_of_methodNamed B.named
  have hlocks := B.notSynchronized
  have hS : va_S A s.heap s.heap [] := va_S.rf
  have hl := lv_entry ([.ref (ad 0), .int p1]) (n := 3) (Nat.le_of_ble_eq_true rfl)
  rw [lg_entry_eq]
  generalize (lg_sl ([.ref (ad 0), .int p1]) ++ List.replicate (3 - (lg_sl ([.ref (ad 0), .int p1])).length) Slot.unset).toArray = ls at hl ⊢
  have hl : lv_has ls 3 [(0, .ref (ad 0)), (1, .int p1)] := hl
  clear B
  have hB6 : ∀ (f6 : Nat) (σ : zMem) (l1 : Int32) (l2 : Int32), ∀ (H : Heap) (locs : List Loc) (ls : Array Slot), zlp (LX10_findAsked_6 n) f6 (σ, l1, l2) = some (r0, σ') → va_P D vwCl (zW (zm cI ad) 20 ad σ) H → va_D A (zW (zm cI ad) 20 ad σ) → va_S A s.heap H locs → lv_has ls 3 [(0, .ref (ad 0)), (1, .int l1), (2, .int l2)] → W p l e (headSpec wsX10_findAsked ({ frames := 1, cells := 0, slots := 0, locals := 22 } : Room)).room s m ([.ref (ad 0), .int p1] : List Value).toArray below meth c H locs 0 0 (MQ below (va_Qv (fun u => u = σ') (zB (zm cI ad) 20 ad D (zty cI cS cP) A) A) ([.ref (ad 0), .int p1] : List Value).toArray s 0 0 A) (F0 m 6 ls []) := by
    intro f6
    induction f6 with
    | zero => intro σ l1 l2 H locs ls hF hP hD hS hl; exact (zlp_0 hF).elim
    | succ f6 ih6 =>
      intro σ l1 l2 H locs ls hF hP hD hS hl
      have hF : LBX10_findAsked_6 n   (zlp (LX10_findAsked_6 n) f6) σ l1 l2 = some (r0, σ') := hF
      unfold LBX10_findAsked_6 at hF
      refine lv_iload_n hx hb dX10_findAsked_6 rfl (lv_at hl 2 rfl) ?_
      refine lv_iload_n hx hb dX10_findAsked_7 rfl (lv_at hl 1 rfl) ?_
      refine lv_icmp_ge (tgt := 42) hx hb dX10_findAsked_8 (by decide) (fun b1 => ?_) (fun b1 => ?_)
      · have hF := zif_t b1 hF
        refine lv_aload_n hx hb dX10_findAsked_42 rfl (lv_at hl 0 rfl) ?_
        obtain ⟨r3, σ2, hC4, hF⟩ := zbd_inv hF
        refine z_callv (va_runV (As := []) (rest := []) ⟨hx, hb, hml, hown, hts⟩ (CX10_putBack l D cI cS cP ad A n σ σ2 r3 hC4) (cwV 0 hts gX10_findAsked_X10_putBack rfl rfl rfl (by decide +kernel) ⟨Nat.le_of_ble_eq_true rfl, Nat.le_of_ble_eq_true rfl⟩) (z_preV hN hK hP hD (by decide) zm_0 rfl) rfl rfl hl.1 rfl (lv_room (Nat.le_of_ble_eq_true rfl)) dX10_findAsked_43 ⟨Nat.zero_le _, Nat.zero_le _⟩) hS (fun H locs hP hD hS => ?_)
        exact z_vret hx hb hr hlocks hN hK hP hD hS hF dX10_findAsked_46
      · have hF := zif_f b1 hF
        refine lv_aload_n hx hb dX10_findAsked_11 rfl (lv_at hl 0 rfl) ?_
        refine z_get (ci := 9) (C := RX10) (T := TX10) (N := 32) hx hb hts iX10_findAsked_X10 hown hK hP (by decide) zm_0 rfl 23 (by decide) kX10_findAsked_f49 rfl (v := .ref (ad 14)) rfl dX10_findAsked_12 ?_
        refine lv_iload_n hx hb dX10_findAsked_15 rfl (lv_at hl 2 rfl) ?_
        refine lv_aload_n hx hb dX10_findAsked_16 rfl (lv_at hl 0 rfl) ?_
        obtain ⟨r6, σ5, hC7, hF⟩ := zbd_inv hF
        refine z_calli (va_runV (As := []) (rest := [.int l2, .ref (ad 14)]) ⟨hx, hb, hml, hown, hts⟩ (CX10_firstOf l D cI cS cP ad A n σ σ5 r6 hC7) (cwV 0 hts gX10_findAsked_X10_firstOf rfl rfl rfl (by decide +kernel) ⟨Nat.le_of_ble_eq_true rfl, Nat.le_of_ble_eq_true rfl⟩) (z_preV hN hK hP hD (by decide) zm_0 rfl) rfl rfl hl.1 rfl (lv_room (Nat.le_of_ble_eq_true rfl)) dX10_findAsked_17 ⟨Nat.zero_le _, Nat.zero_le _⟩) hS (fun H locs hP hD hS => ?_)
        obtain ⟨g8, hF⟩ := zgd_inv hF
        obtain ⟨σ9, eσ9, hF⟩ := zlet_inv hF
        refine z_iast hx hb hK hP hD hS (by decide) (fun _ => (zm_a (n := 7) (by decide))) rfl g8 dX10_findAsked_20 (fun H locs hP hD hS => ?_)
        have hP : va_P D vwCl (zW (zm cI ad) 20 ad σ9) H := by rw [eσ9]; exact hP
        have hD : va_D A (zW (zm cI ad) 20 ad σ9) := by rw [eσ9]; exact hD
        refine lv_aload_n hx hb dX10_findAsked_21 rfl (lv_at hl 0 rfl) ?_
        refine z_get (ci := 9) (C := RX10) (T := TX10) (N := 32) hx hb hts iX10_findAsked_X10 hown hK hP (by decide) zm_0 rfl 10 (by decide) kX10_findAsked_f25 rfl (v := .ref (ad 6)) rfl dX10_findAsked_22 ?_
        refine lv_aload_n hx hb dX10_findAsked_25 rfl (lv_at hl 0 rfl) ?_
        refine z_get (ci := 9) (C := RX10) (T := TX10) (N := 32) hx hb hts iX10_findAsked_X10 hown hK hP (by decide) zm_0 rfl 23 (by decide) kX10_findAsked_f49 rfl (v := .ref (ad 14)) rfl dX10_findAsked_26 ?_
        refine lv_iload_n hx hb dX10_findAsked_29 rfl (lv_at hl 2 rfl) ?_
        obtain ⟨g10, hF⟩ := zgd_inv hF
        refine z_iald hx hb hK hP (by decide) (zm_a (n := 7) (by decide)) rfl g10 dX10_findAsked_30 ?_
        refine lv_dup2_11 hx hb dX10_findAsked_31 rfl rfl ?_
        obtain ⟨g11, hF⟩ := zgd_inv hF
        refine z_iald hx hb hK hP (by decide) (zm_a (n := 6) (by decide)) rfl g11 dX10_findAsked_32 ?_
        refine lv_iconst (v := (1 : Int32)) hx hb dX10_findAsked_33 (by decide) ?_
        refine lv_iadd hx hb dX10_findAsked_34 ?_
        obtain ⟨g12, hF⟩ := zgd_inv hF
        obtain ⟨σ13, eσ13, hF⟩ := zlet_inv hF
        refine z_iast hx hb hK hP hD hS (by decide) (fun _ => (zm_a (n := 6) (by decide))) rfl g12 dX10_findAsked_35 (fun H locs hP hD hS => ?_)
        have hP : va_P D vwCl (zW (zm cI ad) 20 ad σ13) H := by rw [eσ13]; exact hP
        have hD : va_D A (zW (zm cI ad) 20 ad σ13) := by rw [eσ13]; exact hD
        refine lv_iinc (v := (l2 + (1 : Int32))) (lv' := [(2, .int (l2 + (1 : Int32))), (0, .ref (ad 0)), (1, .int l1)]) hx hb dX10_findAsked_36 hl (k := 2) rfl rfl (by decide) rfl (fun ls hl => ?_)
        refine lv_goto (tgt := 6) hx hb dX10_findAsked_39 (by decide) ?_
        exact ih6 σ13 l1 (l2 + (1 : Int32)) _ _ _ hF hP hD hS (lv_sub hl [1, 2, 0] rfl)
  unfold FX10_findAsked at hF
  refine lv_aload_n hx hb dX10_findAsked_0 rfl (lv_at hl 0 rfl) ?_
  obtain ⟨r15, σ14, hC16, hF⟩ := zbd_inv hF
  refine z_callv (va_runV (As := []) (rest := []) ⟨hx, hb, hml, hown, hts⟩ (CX10_keep l D cI cS cP ad A n σ σ14 r15 hC16) (cwV 0 hts gX10_findAsked_X10_keep rfl rfl rfl (by decide +kernel) ⟨Nat.le_of_ble_eq_true rfl, Nat.le_of_ble_eq_true rfl⟩) (z_preV hN hK hP hD (by decide) zm_0 rfl) rfl rfl hl.1 rfl (lv_room (Nat.le_of_ble_eq_true rfl)) dX10_findAsked_1 ⟨Nat.zero_le _, Nat.zero_le _⟩) hS (fun H locs hP hD hS => ?_)
  refine lv_iconst (v := (0 : Int32)) hx hb dX10_findAsked_4 (by decide) ?_
  refine lv_istore_n (lv' := [(2, .int (0 : Int32)), (0, .ref (ad 0)), (1, .int p1)]) hx hb dX10_findAsked_5 rfl hl (by decide) rfl (fun ls hl => ?_)
  exact hB6 n σ14 p1 (0 : Int32) _ _ _ hF hP hD hS (lv_sub hl [1, 2, 0] rfl)
theorem kX10_broughtByRow_f49 : Cond.fieldLink RX10 49 "LeastAskedModel" "askedThen" "[I" ∈ wsX10_broughtByRow := by decide +kernel
theorem kX10_broughtByRow_f16 : Cond.fieldLink RX10 16 "LeastAskedModel" "cells" "[I" ∈ wsX10_broughtByRow := by decide +kernel
theorem kX10_broughtByRow_f46 : Cond.fieldLink RX10 46 "LeastAskedModel" "row" "[I" ∈ wsX10_broughtByRow := by decide +kernel
theorem iX10_broughtByRow_X10 : ∀ w ∈ u_ws RX10 TX10 32, w ∈ wsX10_broughtByRow := fun _ h => List.mem_cons_of_mem _ (List.mem_append_right _ h)
set_option maxHeartbeats 4000000 in
set_option maxRecDepth 100000 in
theorem CX10_broughtByRow (l : Launch) (D : va_G) (cI cS cP : ClassId) (ad : Nat → Nat) (A : Nat → Prop) (n : Nat) (σ σ' : zMem) (r0 : Int32) (p1 : Int32) (p2 : Int32) (hF : FX10_broughtByRow n σ p1 p2 = some (r0, σ')) : Met l yX10_broughtByRow wsX10_broughtByRow ({ frames := 2, cells := 0, slots := 0, locals := 43 } : Room) (va_Pc [.ref (ad 0), .int p1, .int p2] (zB (zm cI ad) 20 ad D (zty cI cS cP) A σ)) (va_Qi (fun r u => r = r0 ∧ u = σ') (zB (zm cI ad) 20 ad D (zty cI cS cP) A) A) 0 0 A := by
  refine Met.ofW (cc := cX10_broughtByRow) (maxL := 5) (ret := (some .int)) (by decide) rfl ?_
  intro p e s m args below meth c s₁ B hml hv
  obtain ⟨rfl, hP, hK, hD, hN⟩ := hv
  have hx := B.exec
  have hb := B.bytes
  have hr := B.returns
  have hts := atoms_spec (ws := wsX10_broughtByRow) B.pre
  have hown : s.vm.findClass RX10 = some m.cls := findClass_of_methodNamed B.named
  have hlocks := B.notSynchronized
  have hS : va_S A s.heap s.heap [] := va_S.rf
  have hl := lv_entry ([.ref (ad 0), .int p1, .int p2]) (n := 5) (Nat.le_of_ble_eq_true rfl)
  rw [lg_entry_eq]
  generalize (lg_sl ([.ref (ad 0), .int p1, .int p2]) ++ List.replicate (5 - (lg_sl ([.ref (ad 0), .int p1, .int p2])).length) Slot.unset).toArray = ls at hl ⊢
  have hl : lv_has ls 5 [(0, .ref (ad 0)), (1, .int p1), (2, .int p2)] := hl
  clear B
  have hB5 : ∀ (f5 : Nat) (σ : zMem) (l1 : Int32) (l2 : Int32) (l3 : Int32) (l4 : Int32), ∀ (H : Heap) (locs : List Loc) (ls : Array Slot), zlp (LX10_broughtByRow_5 n) f5 (σ, l1, l2, l3, l4) = some (r0, σ') → va_P D vwCl (zW (zm cI ad) 20 ad σ) H → va_D A (zW (zm cI ad) 20 ad σ) → va_S A s.heap H locs → lv_has ls 5 [(0, .ref (ad 0)), (1, .int l1), (2, .int l2), (3, .int l3), (4, .int l4)] → W p l e (headSpec wsX10_broughtByRow ({ frames := 2, cells := 0, slots := 0, locals := 43 } : Room)).room s m ([.ref (ad 0), .int p1, .int p2] : List Value).toArray below meth c H locs 0 0 (MQ below (va_Qi (fun r u => r = r0 ∧ u = σ') (zB (zm cI ad) 20 ad D (zty cI cS cP) A) A) ([.ref (ad 0), .int p1, .int p2] : List Value).toArray s 0 0 A) (F0 m 5 ls []) := by
    intro f5
    induction f5 with
    | zero => intro σ l1 l2 l3 l4 H locs ls hF hP hD hS hl; exact (zlp_0 hF).elim
    | succ f5 ih5 =>
      intro σ l1 l2 l3 l4 H locs ls hF hP hD hS hl
      have hF : LBX10_broughtByRow_5 n   (zlp (LX10_broughtByRow_5 n) f5) σ l1 l2 l3 l4 = some (r0, σ') := hF
      unfold LBX10_broughtByRow_5 at hF
      refine lv_iload hx hb dX10_broughtByRow_5 (lv_at hl 4 rfl) ?_
      refine lv_iload_n hx hb dX10_broughtByRow_7 rfl (lv_at hl 2 rfl) ?_
      refine lv_icmp_ge (tgt := 45) hx hb dX10_broughtByRow_8 (by decide) (fun b1 => ?_) (fun b1 => ?_)
      · have hF := zif_t b1 hF
        refine lv_iload_n hx hb dX10_broughtByRow_45 rfl (lv_at hl 3 rfl) ?_
        exact z_iret hx hb hr hlocks hN hK hP hD hS hF dX10_broughtByRow_46
      · have hF := zif_f b1 hF
        refine lv_iload_n hx hb dX10_broughtByRow_11 rfl (lv_at hl 3 rfl) ?_
        refine lv_aload_n hx hb dX10_broughtByRow_12 rfl (lv_at hl 0 rfl) ?_
        refine lv_aload_n hx hb dX10_broughtByRow_13 rfl (lv_at hl 0 rfl) ?_
        refine z_get (ci := 9) (C := RX10) (T := TX10) (N := 32) hx hb hts iX10_broughtByRow_X10 hown hK hP (by decide) zm_0 rfl 23 (by decide) kX10_broughtByRow_f49 rfl (v := .ref (ad 14)) rfl dX10_broughtByRow_14 ?_
        refine lv_iload hx hb dX10_broughtByRow_17 (lv_at hl 4 rfl) ?_
        obtain ⟨g2, hF⟩ := zgd_inv hF
        refine z_iald hx hb hK hP (by decide) (zm_a (n := 7) (by decide)) rfl g2 dX10_broughtByRow_19 ?_
        refine lv_aload_n hx hb dX10_broughtByRow_20 rfl (lv_at hl 0 rfl) ?_
        refine z_get (ci := 9) (C := RX10) (T := TX10) (N := 32) hx hb hts iX10_broughtByRow_X10 hown hK hP (by decide) zm_0 rfl 4 (by decide) kX10_broughtByRow_f16 rfl (v := .ref (ad 3)) rfl dX10_broughtByRow_21 ?_
        refine lv_iload_n hx hb dX10_broughtByRow_24 rfl (lv_at hl 1 rfl) ?_
        refine lv_aload_n hx hb dX10_broughtByRow_25 rfl (lv_at hl 0 rfl) ?_
        refine z_get (ci := 9) (C := RX10) (T := TX10) (N := 32) hx hb hts iX10_broughtByRow_X10 hown hK hP (by decide) zm_0 rfl 22 (by decide) kX10_broughtByRow_f46 rfl (v := .ref (ad 13)) rfl dX10_broughtByRow_26 ?_
        refine lv_iload hx hb dX10_broughtByRow_29 (lv_at hl 4 rfl) ?_
        obtain ⟨g3, hF⟩ := zgd_inv hF
        refine z_iald hx hb hK hP (by decide) (zm_a (n := 7) (by decide)) rfl g3 dX10_broughtByRow_31 ?_
        refine lv_iadd hx hb dX10_broughtByRow_32 ?_
        obtain ⟨g4, hF⟩ := zgd_inv hF
        refine z_iald hx hb hK hP (by decide) (zm_a (n := 240) (by decide)) rfl g4 dX10_broughtByRow_33 ?_
        obtain ⟨r6, σ5, hC7, hF⟩ := zbd_inv hF
        refine z_calli (va_runV (As := [.int (σ 14 (l4 : Int32).toNatClampNeg), .int (σ 3 ((l1 + (σ 13 (l4 : Int32).toNatClampNeg)) : Int32).toNatClampNeg)]) (rest := [.int l3]) ⟨hx, hb, hml, hown, hts⟩ (CX10_bringsOf l D cI cS cP ad A n σ σ5 r6 (σ 14 (l4 : Int32).toNatClampNeg) (σ 3 ((l1 + (σ 13 (l4 : Int32).toNatClampNeg)) : Int32).toNatClampNeg) hC7) (cwV 2 hts gX10_broughtByRow_X10_bringsOf rfl rfl rfl (by decide +kernel) ⟨Nat.le_of_ble_eq_true rfl, Nat.le_of_ble_eq_true rfl⟩) (z_preV hN hK hP hD (by decide) zm_0 rfl) rfl rfl hl.1 rfl (lv_room (Nat.le_of_ble_eq_true rfl)) dX10_broughtByRow_34 ⟨Nat.zero_le _, Nat.zero_le _⟩) hS (fun H locs hP hD hS => ?_)
        refine lv_iadd hx hb dX10_broughtByRow_37 ?_
        refine lv_istore_n (lv' := [(3, .int (l3 + r6)), (0, .ref (ad 0)), (1, .int l1), (2, .int l2), (4, .int l4)]) hx hb dX10_broughtByRow_38 rfl hl (by decide) rfl (fun ls hl => ?_)
        refine lv_iinc (v := (l4 + (1 : Int32))) (lv' := [(4, .int (l4 + (1 : Int32))), (3, .int (l3 + r6)), (0, .ref (ad 0)), (1, .int l1), (2, .int l2)]) hx hb dX10_broughtByRow_39 hl (k := 4) rfl rfl (by decide) rfl (fun ls hl => ?_)
        refine lv_goto (tgt := 5) hx hb dX10_broughtByRow_42 (by decide) ?_
        exact ih5 σ5 l1 l2 (l3 + r6) (l4 + (1 : Int32)) _ _ _ hF hP hD hS (lv_sub hl [2, 3, 4, 1, 0] rfl)
  unfold FX10_broughtByRow at hF
  refine lv_iconst (v := (0 : Int32)) hx hb dX10_broughtByRow_0 (by decide) ?_
  refine lv_istore_n (lv' := [(3, .int (0 : Int32)), (0, .ref (ad 0)), (1, .int p1), (2, .int p2)]) hx hb dX10_broughtByRow_1 rfl hl (by decide) rfl (fun ls hl => ?_)
  refine lv_iconst (v := (0 : Int32)) hx hb dX10_broughtByRow_2 (by decide) ?_
  refine lv_istore (lv' := [(4, .int (0 : Int32)), (3, .int (0 : Int32)), (0, .ref (ad 0)), (1, .int p1), (2, .int p2)]) hx hb dX10_broughtByRow_3 hl (by decide) rfl (fun ls hl => ?_)
  exact hB5 n σ p1 p2 (0 : Int32) (0 : Int32) _ _ _ hF hP hD hS (lv_sub hl [2, 3, 4, 1, 0] rfl)
theorem kX10_planOf_f46 : Cond.fieldLink RX10 46 "LeastAskedModel" "row" "[I" ∈ wsX10_planOf := by decide +kernel
theorem iX10_planOf_X10 : ∀ w ∈ u_ws RX10 TX10 32, w ∈ wsX10_planOf := fun _ h => List.mem_cons_of_mem _ (List.mem_append_right _ h)
set_option maxHeartbeats 4000000 in
set_option maxRecDepth 100000 in
theorem CX10_planOf (l : Launch) (D : va_G) (cI cS cP : ClassId) (ad : Nat → Nat) (A : Nat → Prop) (n : Nat) (σ σ' : zMem) (r0 : Int32) (p1 : Int32) (p2 : Int32) (p3 : Int32) (hF : FX10_planOf n σ p1 p2 p3 = some (r0, σ')) : Met l yX10_planOf wsX10_planOf ({ frames := 3, cells := 0, slots := 0, locals := 67 } : Room) (va_Pc [.ref (ad 0), .int p1, .int p2, .int p3] (zB (zm cI ad) 20 ad D (zty cI cS cP) A σ)) (va_Qi (fun r u => r = r0 ∧ u = σ') (zB (zm cI ad) 20 ad D (zty cI cS cP) A) A) 0 0 A := by
  refine Met.ofW (cc := cX10_planOf) (maxL := 8) (ret := (some .int)) (by decide) rfl ?_
  intro p e s m args below meth c s₁ B hml hv
  obtain ⟨rfl, hP, hK, hD, hN⟩ := hv
  have hx := B.exec
  have hb := B.bytes
  have hr := B.returns
  have hts := atoms_spec (ws := wsX10_planOf) B.pre
  have hown : s.vm.findClass RX10 = some m.cls := findClass_of_methodNamed B.named
  have hlocks := B.notSynchronized
  have hS : va_S A s.heap s.heap [] := va_S.rf
  have hl := lv_entry ([.ref (ad 0), .int p1, .int p2, .int p3]) (n := 8) (Nat.le_of_ble_eq_true rfl)
  rw [lg_entry_eq]
  generalize (lg_sl ([.ref (ad 0), .int p1, .int p2, .int p3]) ++ List.replicate (8 - (lg_sl ([.ref (ad 0), .int p1, .int p2, .int p3])).length) Slot.unset).toArray = ls at hl ⊢
  have hl : lv_has ls 8 [(0, .ref (ad 0)), (1, .int p1), (2, .int p2), (3, .int p3)] := hl
  clear B
  have hB15 : ∀ (f15 : Nat) (σ : zMem) (l1 : Int32) (l2 : Int32) (l3 : Int32) (l4 : Int32) (l5 : Int32) (l6 : Int32), ∀ (H : Heap) (locs : List Loc) (ls : Array Slot), zlp (LX10_planOf_15 n) f15 (σ, l1, l2, l3, l4, l5, l6) = some (r0, σ') → va_P D vwCl (zW (zm cI ad) 20 ad σ) H → va_D A (zW (zm cI ad) 20 ad σ) → va_S A s.heap H locs → lv_has ls 8 [(0, .ref (ad 0)), (1, .int l1), (2, .int l2), (3, .int l3), (4, .int l4), (5, .int l5), (6, .int l6)] → W p l e (headSpec wsX10_planOf ({ frames := 3, cells := 0, slots := 0, locals := 67 } : Room)).room s m ([.ref (ad 0), .int p1, .int p2, .int p3] : List Value).toArray below meth c H locs 0 0 (MQ below (va_Qi (fun r u => r = r0 ∧ u = σ') (zB (zm cI ad) 20 ad D (zty cI cS cP) A) A) ([.ref (ad 0), .int p1, .int p2, .int p3] : List Value).toArray s 0 0 A) (F0 m 15 ls []) := by
    intro f15
    induction f15 with
    | zero => intro σ l1 l2 l3 l4 l5 l6 H locs ls hF hP hD hS hl; exact (zlp_0 hF).elim
    | succ f15 ih15 =>
      have hB53 : ∀ (σ : zMem) (l1 : Int32) (l2 : Int32) (l3 : Int32) (l4 : Int32) (l5 : Int32) (l6 : Int32) (l7 : Int32), ∀ (H : Heap) (locs : List Loc) (ls : Array Slot), BX10_planOf_53 n (zlp (LX10_planOf_15 n) f15) σ l1 l2 l3 l4 l5 l6 l7 = some (r0, σ') → va_P D vwCl (zW (zm cI ad) 20 ad σ) H → va_D A (zW (zm cI ad) 20 ad σ) → va_S A s.heap H locs → lv_has ls 8 [(0, .ref (ad 0)), (1, .int l1), (2, .int l2), (3, .int l3), (4, .int l4), (5, .int l5), (6, .int l6), (7, .int l7)] → W p l e (headSpec wsX10_planOf ({ frames := 3, cells := 0, slots := 0, locals := 67 } : Room)).room s m ([.ref (ad 0), .int p1, .int p2, .int p3] : List Value).toArray below meth c H locs 0 0 (MQ below (va_Qi (fun r u => r = r0 ∧ u = σ') (zB (zm cI ad) 20 ad D (zty cI cS cP) A) A) ([.ref (ad 0), .int p1, .int p2, .int p3] : List Value).toArray s 0 0 A) (F0 m 53 ls []) := by
        intro σ l1 l2 l3 l4 l5 l6 l7 H locs ls hF hP hD hS hl
        unfold BX10_planOf_53 at hF
        refine lv_iload hx hb dX10_planOf_53 (lv_at hl 6 rfl) ?_
        refine lv_istore (lv' := [(4, .int l6), (0, .ref (ad 0)), (1, .int l1), (2, .int l2), (3, .int l3), (5, .int l5), (6, .int l6), (7, .int l7)]) hx hb dX10_planOf_55 hl (by decide) rfl (fun ls hl => ?_)
        refine lv_iload hx hb dX10_planOf_57 (lv_at hl 7 rfl) ?_
        refine lv_istore (lv' := [(5, .int l7), (4, .int l6), (0, .ref (ad 0)), (1, .int l1), (2, .int l2), (3, .int l3), (6, .int l6), (7, .int l7)]) hx hb dX10_planOf_59 hl (by decide) rfl (fun ls hl => ?_)
        refine lv_iinc (v := (l6 + (1 : Int32))) (lv' := [(6, .int (l6 + (1 : Int32))), (5, .int l7), (4, .int l6), (0, .ref (ad 0)), (1, .int l1), (2, .int l2), (3, .int l3), (7, .int l7)]) hx hb dX10_planOf_61 hl (k := 6) rfl rfl (by decide) rfl (fun ls hl => ?_)
        refine lv_goto (tgt := 15) hx hb dX10_planOf_64 (by decide) ?_
        exact ih15 σ l1 l2 l3 l6 l7 (l6 + (1 : Int32)) _ _ _ hF hP hD hS (lv_sub hl [3, 4, 5, 6, 2, 1, 0] rfl)
      intro σ l1 l2 l3 l4 l5 l6 H locs ls hF hP hD hS hl
      have hF : LBX10_planOf_15 n   (zlp (LX10_planOf_15 n) f15) σ l1 l2 l3 l4 l5 l6 = some (r0, σ') := hF
      unfold LBX10_planOf_15 at hF
      refine lv_iload hx hb dX10_planOf_15 (lv_at hl 6 rfl) ?_
      refine lv_iload_n hx hb dX10_planOf_17 rfl (lv_at hl 2 rfl) ?_
      obtain ⟨r2, σ1, hC3, hF⟩ := zbd_inv hF
      refine z_calli (va_runS (As := [.int l2]) (rest := [.int l6]) ⟨hx, hb, hml, hown, hts⟩ (CX10_ordersOf l D cI cS cP ad A n σ σ1 r2 l2 hC3) (va_cwS 1 hts gX10_planOf_X10_ordersOf rfl rfl rfl (by decide +kernel) ⟨Nat.le_of_ble_eq_true rfl, Nat.le_of_ble_eq_true rfl⟩) (z_preS hN hK hP hD) rfl rfl hl.1 rfl (lv_room (Nat.le_of_ble_eq_true rfl)) dX10_planOf_18 ⟨Nat.zero_le _, Nat.zero_le _⟩) hS (fun H locs hP hD hS => ?_)
      refine lv_icmp_ge (tgt := 67) hx hb dX10_planOf_21 (by decide) (fun b4 => ?_) (fun b4 => ?_)
      · have hF := zif_t b4 hF
        refine lv_iload_n hx hb dX10_planOf_67 rfl (lv_at hl 3 rfl) ?_
        refine lv_iconst (v := (-1 : Int32)) hx hb dX10_planOf_68 (by decide) ?_
        refine lv_icmp_ne (tgt := 75) hx hb dX10_planOf_69 (by decide) (fun b5 => ?_) (fun b5 => ?_)
        · have hF := zif_f b5 hF
          refine lv_aload_n hx hb dX10_planOf_75 rfl (lv_at hl 0 rfl) ?_
          refine lv_iload hx hb dX10_planOf_76 (lv_at hl 4 rfl) ?_
          refine lv_iload_n hx hb dX10_planOf_78 rfl (lv_at hl 2 rfl) ?_
          obtain ⟨r7, σ6, hC8, hF⟩ := zbd_inv hF
          refine z_callv (va_runV (As := [.int l4, .int l2]) (rest := []) ⟨hx, hb, hml, hown, hts⟩ (CX10_findRow l D cI cS cP ad A n σ1 σ6 r7 l4 l2 hC8) (cwV 2 hts gX10_planOf_X10_findRow rfl rfl rfl (by decide +kernel) ⟨Nat.le_of_ble_eq_true rfl, Nat.le_of_ble_eq_true rfl⟩) (z_preV hN hK hP hD (by decide) zm_0 rfl) rfl rfl hl.1 rfl (lv_room (Nat.le_of_ble_eq_true rfl)) dX10_planOf_79 ⟨Nat.zero_le _, Nat.zero_le _⟩) hS (fun H locs hP hD hS => ?_)
          refine lv_iload_n hx hb dX10_planOf_82 rfl (lv_at hl 3 rfl) ?_
          refine lv_iload_n hx hb dX10_planOf_83 rfl (lv_at hl 2 rfl) ?_
          refine lv_icmp_ge (tgt := 96) hx hb dX10_planOf_84 (by decide) (fun b9 => ?_) (fun b9 => ?_)
          · have hF := zif_t b9 hF
            refine lv_bipush (v := (-9 : Int32)) hx hb dX10_planOf_96 (by decide) ?_
            exact z_iret hx hb hr hlocks hN hK hP hD hS hF dX10_planOf_98
          · have hF := zif_f b9 hF
            refine lv_aload_n hx hb dX10_planOf_87 rfl (lv_at hl 0 rfl) ?_
            refine z_get (ci := 9) (C := RX10) (T := TX10) (N := 32) hx hb hts iX10_planOf_X10 hown hK hP (by decide) zm_0 rfl 22 (by decide) kX10_planOf_f46 rfl (v := .ref (ad 13)) rfl dX10_planOf_88 ?_
            refine lv_iload_n hx hb dX10_planOf_91 rfl (lv_at hl 3 rfl) ?_
            obtain ⟨g10, hF⟩ := zgd_inv hF
            refine z_iald hx hb hK hP (by decide) (zm_a (n := 7) (by decide)) rfl g10 dX10_planOf_92 ?_
            refine lv_goto (tgt := 98) hx hb dX10_planOf_93 (by decide) ?_
            exact z_iret hx hb hr hlocks hN hK hP hD hS hF dX10_planOf_98
        · have hF := zif_t b5 hF
          refine lv_iload hx hb dX10_planOf_72 (lv_at hl 5 rfl) ?_
          exact z_iret hx hb hr hlocks hN hK hP hD hS hF dX10_planOf_74
      · have hF := zif_f b4 hF
        refine lv_aload_n hx hb dX10_planOf_24 rfl (lv_at hl 0 rfl) ?_
        refine lv_iload hx hb dX10_planOf_25 (lv_at hl 6 rfl) ?_
        refine lv_iload_n hx hb dX10_planOf_27 rfl (lv_at hl 2 rfl) ?_
        obtain ⟨r12, σ11, hC13, hF⟩ := zbd_inv hF
        refine z_callv (va_runV (As := [.int l6, .int l2]) (rest := []) ⟨hx, hb, hml, hown, hts⟩ (CX10_findRow l D cI cS cP ad A n σ1 σ11 r12 l6 l2 hC13) (cwV 2 hts gX10_planOf_X10_findRow rfl rfl rfl (by decide +kernel) ⟨Nat.le_of_ble_eq_true rfl, Nat.le_of_ble_eq_true rfl⟩) (z_preV hN hK hP hD (by decide) zm_0 rfl) rfl rfl hl.1 rfl (lv_room (Nat.le_of_ble_eq_true rfl)) dX10_planOf_28 ⟨Nat.zero_le _, Nat.zero_le _⟩) hS (fun H locs hP hD hS => ?_)
        refine lv_aload_n hx hb dX10_planOf_31 rfl (lv_at hl 0 rfl) ?_
        refine lv_iload_n hx hb dX10_planOf_32 rfl (lv_at hl 1 rfl) ?_
        refine lv_iload_n hx hb dX10_planOf_33 rfl (lv_at hl 2 rfl) ?_
        obtain ⟨r15, σ14, hC16, hF⟩ := zbd_inv hF
        refine z_calli (va_runV (As := [.int l1, .int l2]) (rest := []) ⟨hx, hb, hml, hown, hts⟩ (CX10_broughtByRow l D cI cS cP ad A n σ11 σ14 r15 l1 l2 hC16) (cwV 2 hts gX10_planOf_X10_broughtByRow rfl rfl rfl (by decide +kernel) ⟨Nat.le_of_ble_eq_true rfl, Nat.le_of_ble_eq_true rfl⟩) (z_preV hN hK hP hD (by decide) zm_0 rfl) rfl rfl hl.1 rfl (lv_room (Nat.le_of_ble_eq_true rfl)) dX10_planOf_34 ⟨Nat.zero_le _, Nat.zero_le _⟩) hS (fun H locs hP hD hS => ?_)
        refine lv_istore (lv' := [(7, .int r15), (0, .ref (ad 0)), (1, .int l1), (2, .int l2), (3, .int l3), (4, .int l4), (5, .int l5), (6, .int l6)]) hx hb dX10_planOf_37 hl (by decide) rfl (fun ls hl => ?_)
        refine lv_iload hx hb dX10_planOf_39 (lv_at hl 5 rfl) ?_
        refine lv_bipush (v := (-9 : Int32)) hx hb dX10_planOf_41 (by decide) ?_
        refine lv_icmp_eq (tgt := 53) hx hb dX10_planOf_43 (by decide) (fun b17 => ?_) (fun b17 => ?_)
        · have hF := zif_t b17 hF
          exact hB53 σ14 l1 l2 l3 l4 l5 l6 r15 _ _ _ hF hP hD hS (lv_sub hl [1, 2, 3, 4, 5, 6, 7, 0] rfl)
        · have hF := zif_f b17 hF
          refine lv_iload hx hb dX10_planOf_46 (lv_at hl 0 rfl) ?_
          refine lv_iload hx hb dX10_planOf_48 (lv_at hl 6 rfl) ?_
          refine lv_icmp_le (tgt := 61) hx hb dX10_planOf_50 (by decide) (fun b18 => ?_) (fun b18 => ?_)
          · have hF := zif_t b18 hF
            refine lv_iinc (v := (l6 + (1 : Int32))) (lv' := [(6, .int (l6 + (1 : Int32))), (7, .int r15), (0, .ref (ad 0)), (1, .int l1), (2, .int l2), (3, .int l3), (4, .int l4), (5, .int l5)]) hx hb dX10_planOf_61 hl (k := 7) rfl rfl (by decide) rfl (fun ls hl => ?_)
            refine lv_goto (tgt := 15) hx hb dX10_planOf_64 (by decide) ?_
            exact ih15 σ14 l1 l2 l3 l4 l5 (l6 + (1 : Int32)) _ _ _ hF hP hD hS (lv_sub hl [2, 3, 4, 5, 6, 7, 0] rfl)
          · have hF := zif_f b18 hF
            exact hB53 σ14 l1 l2 l3 l4 l5 l6 r15 _ _ _ hF hP hD hS (lv_sub hl [1, 2, 3, 4, 5, 6, 7, 0] rfl)
  unfold FX10_planOf at hF
  refine lv_aload_n hx hb dX10_planOf_0 rfl (lv_at hl 0 rfl) ?_
  refine lv_iload_n hx hb dX10_planOf_1 rfl (lv_at hl 2 rfl) ?_
  obtain ⟨r20, σ19, hC21, hF⟩ := zbd_inv hF
  refine z_callv (va_runV (As := [.int p2]) (rest := []) ⟨hx, hb, hml, hown, hts⟩ (CX10_findAsked l D cI cS cP ad A n σ σ19 r20 p2 hC21) (cwV 1 hts gX10_planOf_X10_findAsked rfl rfl rfl (by decide +kernel) ⟨Nat.le_of_ble_eq_true rfl, Nat.le_of_ble_eq_true rfl⟩) (z_preV hN hK hP hD (by decide) zm_0 rfl) rfl rfl hl.1 rfl (lv_room (Nat.le_of_ble_eq_true rfl)) dX10_planOf_2 ⟨Nat.zero_le _, Nat.zero_le _⟩) hS (fun H locs hP hD hS => ?_)
  refine lv_bipush (v := (-9 : Int32)) hx hb dX10_planOf_5 (by decide) ?_
  refine lv_istore (lv' := [(4, .int (-9 : Int32)), (0, .ref (ad 0)), (1, .int p1), (2, .int p2), (3, .int p3)]) hx hb dX10_planOf_7 hl (by decide) rfl (fun ls hl => ?_)
  refine lv_iconst (v := (0 : Int32)) hx hb dX10_planOf_9 (by decide) ?_
  refine lv_istore (lv' := [(5, .int (0 : Int32)), (4, .int (-9 : Int32)), (0, .ref (ad 0)), (1, .int p1), (2, .int p2), (3, .int p3)]) hx hb dX10_planOf_10 hl (by decide) rfl (fun ls hl => ?_)
  refine lv_iconst (v := (0 : Int32)) hx hb dX10_planOf_12 (by decide) ?_
  refine lv_istore (lv' := [(6, .int (0 : Int32)), (5, .int (0 : Int32)), (4, .int (-9 : Int32)), (0, .ref (ad 0)), (1, .int p1), (2, .int p2), (3, .int p3)]) hx hb dX10_planOf_13 hl (by decide) rfl (fun ls hl => ?_)
  exact hB15 n σ19 p1 p2 p3 (-9 : Int32) (0 : Int32) (0 : Int32) _ _ _ hF hP hD hS (lv_sub hl [3, 4, 5, 6, 2, 1, 0] rfl)
theorem kX10_plan_f16 : Cond.fieldLink RX10 16 "LeastAskedModel" "cells" "[I" ∈ wsX10_plan := by decide +kernel
theorem kX10_plan_f67 : Cond.fieldLink RX10 67 "LeastAskedModel" "fault" "I" ∈ wsX10_plan := by decide +kernel
theorem kX10_plan_f77 : Cond.fieldLink RX10 77 "LeastAskedModel" "people" "I" ∈ wsX10_plan := by decide +kernel
theorem iX10_plan_X10 : ∀ w ∈ u_ws RX10 TX10 32, w ∈ wsX10_plan := fun _ h => List.mem_cons_of_mem _ (List.mem_append_right _ h)
set_option maxHeartbeats 4000000 in
set_option maxRecDepth 100000 in
theorem CX10_plan (l : Launch) (D : va_G) (cI cS cP : ClassId) (ad : Nat → Nat) (A : Nat → Prop) (n : Nat) (σ σ' : zMem) (r0 : Int32) (p1 : Int32) (p2 : Int32) (p3 : Int32) (p4 : Int32) (p5 : Int32) (hF : FX10_plan n σ p1 p2 p3 p4 p5 = some (r0, σ')) : Met l yX10_plan wsX10_plan ({ frames := 4, cells := 0, slots := 0, locals := 94 } : Room) (va_Pc [.ref (ad 0), .int p1, .int p2, .int p3, .int p4, .int p5] (zB (zm cI ad) 20 ad D (zty cI cS cP) A σ)) (va_Qi (fun r u => r = r0 ∧ u = σ') (zB (zm cI ad) 20 ad D (zty cI cS cP) A) A) 0 0 A := by
  refine Met.ofW (cc := cX10_plan) (maxL := 9) (ret := (some .int)) (by decide) rfl ?_
  intro p e s m args below meth c s₁ B hml hv
  obtain ⟨rfl, hP, hK, hD, hN⟩ := hv
  have hx := B.exec
  have hb := B.bytes
  have hr := B.returns
  have hts := atoms_spec (ws := wsX10_plan) B.pre
  have hown : s.vm.findClass RX10 = some m.cls := findClass_of_methodNamed B.named
  have hlocks := B.notSynchronized
  have hS : va_S A s.heap s.heap [] := va_S.rf
  have hl := lv_entry ([.ref (ad 0), .int p1, .int p2, .int p3, .int p4, .int p5]) (n := 9) (Nat.le_of_ble_eq_true rfl)
  rw [lg_entry_eq]
  generalize (lg_sl ([.ref (ad 0), .int p1, .int p2, .int p3, .int p4, .int p5]) ++ List.replicate (9 - (lg_sl ([.ref (ad 0), .int p1, .int p2, .int p3, .int p4, .int p5])).length) Slot.unset).toArray = ls at hl ⊢
  have hl : lv_has ls 9 [(0, .ref (ad 0)), (1, .int p1), (2, .int p2), (3, .int p3), (4, .int p4), (5, .int p5)] := hl
  clear B
  have hB90 : ∀ (f90 : Nat) (σ : zMem) (l1 : Int32) (l2 : Int32) (l3 : Int32) (l4 : Int32) (l5 : Int32) (l6 : Int32) (l7 : Int32) (l8 : Int32), ∀ (H : Heap) (locs : List Loc) (ls : Array Slot), zlp (LX10_plan_90 n) f90 (σ, l1, l2, l3, l4, l5, l6, l7, l8) = some (r0, σ') → va_P D vwCl (zW (zm cI ad) 20 ad σ) H → va_D A (zW (zm cI ad) 20 ad σ) → va_S A s.heap H locs → lv_has ls 9 [(0, .ref (ad 0)), (1, .int l1), (2, .int l2), (3, .int l3), (4, .int l4), (5, .int l5), (6, .int l6), (7, .int l7), (8, .int l8)] → W p l e (headSpec wsX10_plan ({ frames := 4, cells := 0, slots := 0, locals := 94 } : Room)).room s m ([.ref (ad 0), .int p1, .int p2, .int p3, .int p4, .int p5] : List Value).toArray below meth c H locs 0 0 (MQ below (va_Qi (fun r u => r = r0 ∧ u = σ') (zB (zm cI ad) 20 ad D (zty cI cS cP) A) A) ([.ref (ad 0), .int p1, .int p2, .int p3, .int p4, .int p5] : List Value).toArray s 0 0 A) (F0 m 90 ls []) := by
    intro f90
    induction f90 with
    | zero => intro σ l1 l2 l3 l4 l5 l6 l7 l8 H locs ls hF hP hD hS hl; exact (zlp_0 hF).elim
    | succ f90 ih90 =>
      intro σ l1 l2 l3 l4 l5 l6 l7 l8 H locs ls hF hP hD hS hl
      have hF : LBX10_plan_90 n   (zlp (LX10_plan_90 n) f90) σ l1 l2 l3 l4 l5 l6 l7 l8 = some (r0, σ') := hF
      unfold LBX10_plan_90 at hF
      refine lv_iload hx hb dX10_plan_90 (lv_at hl 8 rfl) ?_
      refine lv_iload hx hb dX10_plan_92 (lv_at hl 4 rfl) ?_
      refine lv_icmp_ge (tgt := 122) hx hb dX10_plan_94 (by decide) (fun b1 => ?_) (fun b1 => ?_)
      · have hF := zif_t b1 hF
        refine lv_aload_n hx hb dX10_plan_122 rfl (lv_at hl 0 rfl) ?_
        refine lv_iload hx hb dX10_plan_123 (lv_at hl 7 rfl) ?_
        refine lv_iload hx hb dX10_plan_125 (lv_at hl 4 rfl) ?_
        refine lv_iload hx hb dX10_plan_127 (lv_at hl 5 rfl) ?_
        obtain ⟨r3, σ2, hC4, hF⟩ := zbd_inv hF
        refine z_calli (va_runV (As := [.int l7, .int l4, .int l5]) (rest := []) ⟨hx, hb, hml, hown, hts⟩ (CX10_planOf l D cI cS cP ad A n σ σ2 r3 l7 l4 l5 hC4) (cwV 3 hts gX10_plan_X10_planOf rfl rfl rfl (by decide +kernel) ⟨Nat.le_of_ble_eq_true rfl, Nat.le_of_ble_eq_true rfl⟩) (z_preV hN hK hP hD (by decide) zm_0 rfl) rfl rfl hl.1 rfl (lv_room (Nat.le_of_ble_eq_true rfl)) dX10_plan_129 ⟨Nat.zero_le _, Nat.zero_le _⟩) hS (fun H locs hP hD hS => ?_)
        exact z_iret hx hb hr hlocks hN hK hP hD hS hF dX10_plan_132
      · have hF := zif_f b1 hF
        refine lv_aload_n hx hb dX10_plan_97 rfl (lv_at hl 0 rfl) ?_
        refine lv_aload_n hx hb dX10_plan_98 rfl (lv_at hl 0 rfl) ?_
        refine z_get (ci := 9) (C := RX10) (T := TX10) (N := 32) hx hb hts iX10_plan_X10 hown hK hP (by decide) zm_0 rfl 4 (by decide) kX10_plan_f16 rfl (v := .ref (ad 3)) rfl dX10_plan_99 ?_
        refine lv_iload hx hb dX10_plan_102 (lv_at hl 7 rfl) ?_
        refine lv_iload hx hb dX10_plan_104 (lv_at hl 8 rfl) ?_
        refine lv_iadd hx hb dX10_plan_106 ?_
        obtain ⟨g5, hF⟩ := zgd_inv hF
        refine z_iald hx hb hK hP (by decide) (zm_a (n := 240) (by decide)) rfl g5 dX10_plan_107 ?_
        obtain ⟨r7, σ6, hC8, hF⟩ := zbd_inv hF
        refine z_calli (va_runV (As := [.int (σ 3 ((l7 + l8) : Int32).toNatClampNeg)]) (rest := []) ⟨hx, hb, hml, hown, hts⟩ (CX10_isMatter l D cI cS cP ad A n σ σ6 r7 (σ 3 ((l7 + l8) : Int32).toNatClampNeg) hC8) (cwV 1 hts gX10_plan_X10_isMatter rfl rfl rfl (by decide +kernel) ⟨Nat.le_of_ble_eq_true rfl, Nat.le_of_ble_eq_true rfl⟩) (z_preV hN hK hP hD (by decide) zm_0 rfl) rfl rfl hl.1 rfl (lv_room (Nat.le_of_ble_eq_true rfl)) dX10_plan_108 ⟨Nat.zero_le _, Nat.zero_le _⟩) hS (fun H locs hP hD hS => ?_)
        refine lv_if_ne (tgt := 116) hx hb dX10_plan_111 (by decide) (fun b9 => ?_) (fun b9 => ?_)
        · have hF := zif_f b9 hF
          refine lv_iinc (v := (l8 + (1 : Int32))) (lv' := [(8, .int (l8 + (1 : Int32))), (0, .ref (ad 0)), (1, .int l1), (2, .int l2), (3, .int l3), (4, .int l4), (5, .int l5), (6, .int l6), (7, .int l7)]) hx hb dX10_plan_116 hl (k := 8) rfl rfl (by decide) rfl (fun ls hl => ?_)
          refine lv_goto (tgt := 90) hx hb dX10_plan_119 (by decide) ?_
          exact ih90 σ6 l1 l2 l3 l4 l5 l6 l7 (l8 + (1 : Int32)) _ _ _ hF hP hD hS (lv_sub hl [1, 2, 3, 4, 5, 6, 7, 8, 0] rfl)
        · have hF := zif_t b9 hF
          refine lv_iconst (v := (-1 : Int32)) hx hb dX10_plan_114 (by decide) ?_
          exact z_iret hx hb hr hlocks hN hK hP hD hS hF dX10_plan_115
  unfold FX10_plan at hF
  refine lv_aload_n hx hb dX10_plan_0 rfl (lv_at hl 0 rfl) ?_
  refine lv_iconst (v := (0 : Int32)) hx hb dX10_plan_1 (by decide) ?_
  obtain ⟨σ10, eσ10, hF⟩ := zlet_inv hF
  refine z_put (ci := 9) (C := RX10) (T := TX10) (N := 32) hx hb hts iX10_plan_X10 tyX10 tyX10_ok nmX10 hown hK hP hD hS (by decide) zm_0 rfl 0 (by decide) kX10_plan_f67 rfl rfl rfl rfl (Nat.le_of_ble_eq_true rfl) zm_0 dX10_plan_2 (fun H locs hP hD hS => ?_)
  have hP : va_P D vwCl (zW (zm cI ad) 20 ad σ10) H := by rw [eσ10]; exact hP
  have hD : va_D A (zW (zm cI ad) 20 ad σ10) := by rw [eσ10]; exact hD
  refine lv_iload_n hx hb dX10_plan_5 rfl (lv_at hl 1 rfl) ?_
  obtain ⟨r12, σ11, hC13, hF⟩ := zbd_inv hF
  refine z_calli (va_runS (As := [.int p1]) (rest := []) ⟨hx, hb, hml, hown, hts⟩ (CX10_isSheet l D cI cS cP ad A n σ10 σ11 r12 p1 hC13) (va_cwS 1 hts gX10_plan_X10_isSheet rfl rfl rfl (by decide +kernel) ⟨Nat.le_of_ble_eq_true rfl, Nat.le_of_ble_eq_true rfl⟩) (z_preS hN hK hP hD) rfl rfl hl.1 rfl (lv_room (Nat.le_of_ble_eq_true rfl)) dX10_plan_6 ⟨Nat.zero_le _, Nat.zero_le _⟩) hS (fun H locs hP hD hS => ?_)
  refine lv_if_ne (tgt := 14) hx hb dX10_plan_9 (by decide) (fun b14 => ?_) (fun b14 => ?_)
  · have hF := zif_f b14 hF
    refine lv_iload_n hx hb dX10_plan_14 rfl (lv_at hl 2 rfl) ?_
    obtain ⟨r16, σ15, hC17, hF⟩ := zbd_inv hF
    refine z_calli (va_runS (As := [.int p2]) (rest := []) ⟨hx, hb, hml, hown, hts⟩ (CX10_isSort l D cI cS cP ad A n σ11 σ15 r16 p2 hC17) (va_cwS 1 hts gX10_plan_X10_isSort rfl rfl rfl (by decide +kernel) ⟨Nat.le_of_ble_eq_true rfl, Nat.le_of_ble_eq_true rfl⟩) (z_preS hN hK hP hD) rfl rfl hl.1 rfl (lv_room (Nat.le_of_ble_eq_true rfl)) dX10_plan_15 ⟨Nat.zero_le _, Nat.zero_le _⟩) hS (fun H locs hP hD hS => ?_)
    refine lv_if_eq (tgt := 43) hx hb dX10_plan_18 (by decide) (fun b18 => ?_) (fun b18 => ?_)
    · have hF := zif_t b18 hF
      refine lv_bipush (v := (-2 : Int32)) hx hb dX10_plan_43 (by decide) ?_
      exact z_iret hx hb hr hlocks hN hK hP hD hS hF dX10_plan_45
    · have hF := zif_f b18 hF
      refine lv_iload hx hb dX10_plan_21 (lv_at hl 4 rfl) ?_
      refine lv_iconst (v := (0 : Int32)) hx hb dX10_plan_23 (by decide) ?_
      refine lv_bipush (v := (7 : Int32)) hx hb dX10_plan_24 (by decide) ?_
      obtain ⟨r20, σ19, hC21, hF⟩ := zbd_inv hF
      refine z_calli (va_runS (As := [.int p4, .int (0 : Int32), .int (7 : Int32)]) (rest := []) ⟨hx, hb, hml, hown, hts⟩ (CX10_within l D cI cS cP ad A n σ15 σ19 r20 p4 (0 : Int32) (7 : Int32) hC21) (va_cwS 3 hts gX10_plan_X10_within rfl rfl rfl (by decide +kernel) ⟨Nat.le_of_ble_eq_true rfl, Nat.le_of_ble_eq_true rfl⟩) (z_preS hN hK hP hD) rfl rfl hl.1 rfl (lv_room (Nat.le_of_ble_eq_true rfl)) dX10_plan_26 ⟨Nat.zero_le _, Nat.zero_le _⟩) hS (fun H locs hP hD hS => ?_)
      refine lv_if_eq (tgt := 43) hx hb dX10_plan_29 (by decide) (fun b22 => ?_) (fun b22 => ?_)
      · have hF := zif_t b22 hF
        refine lv_bipush (v := (-2 : Int32)) hx hb dX10_plan_43 (by decide) ?_
        exact z_iret hx hb hr hlocks hN hK hP hD hS hF dX10_plan_45
      · have hF := zif_f b22 hF
        refine lv_iload hx hb dX10_plan_32 (lv_at hl 5 rfl) ?_
        refine lv_iconst (v := (-1 : Int32)) hx hb dX10_plan_34 (by decide) ?_
        refine lv_bipush (v := (6 : Int32)) hx hb dX10_plan_35 (by decide) ?_
        obtain ⟨r24, σ23, hC25, hF⟩ := zbd_inv hF
        refine z_calli (va_runS (As := [.int p5, .int (-1 : Int32), .int (6 : Int32)]) (rest := []) ⟨hx, hb, hml, hown, hts⟩ (CX10_within l D cI cS cP ad A n σ19 σ23 r24 p5 (-1 : Int32) (6 : Int32) hC25) (va_cwS 3 hts gX10_plan_X10_within rfl rfl rfl (by decide +kernel) ⟨Nat.le_of_ble_eq_true rfl, Nat.le_of_ble_eq_true rfl⟩) (z_preS hN hK hP hD) rfl rfl hl.1 rfl (lv_room (Nat.le_of_ble_eq_true rfl)) dX10_plan_37 ⟨Nat.zero_le _, Nat.zero_le _⟩) hS (fun H locs hP hD hS => ?_)
        refine lv_if_ne (tgt := 46) hx hb dX10_plan_40 (by decide) (fun b26 => ?_) (fun b26 => ?_)
        · have hF := zif_f b26 hF
          refine lv_aload_n hx hb dX10_plan_46 rfl (lv_at hl 0 rfl) ?_
          refine lv_iload_n hx hb dX10_plan_47 rfl (lv_at hl 1 rfl) ?_
          refine lv_iload_n hx hb dX10_plan_48 rfl (lv_at hl 2 rfl) ?_
          refine lv_iload_n hx hb dX10_plan_49 rfl (lv_at hl 3 rfl) ?_
          refine lv_iload hx hb dX10_plan_50 (lv_at hl 4 rfl) ?_
          obtain ⟨r28, σ27, hC29, hF⟩ := zbd_inv hF
          refine z_calli (va_runV (As := [.int p1, .int p2, .int p3, .int p4]) (rest := []) ⟨hx, hb, hml, hown, hts⟩ (CX10_against l D cI cS cP ad A n σ23 σ27 r28 p1 p2 p3 p4 hC29) (cwV 4 hts gX10_plan_X10_against rfl rfl rfl (by decide +kernel) ⟨Nat.le_of_ble_eq_true rfl, Nat.le_of_ble_eq_true rfl⟩) (z_preV hN hK hP hD (by decide) zm_0 rfl) rfl rfl hl.1 rfl (lv_room (Nat.le_of_ble_eq_true rfl)) dX10_plan_52 ⟨Nat.zero_le _, Nat.zero_le _⟩) hS (fun H locs hP hD hS => ?_)
          refine lv_istore (lv' := [(6, .int r28), (0, .ref (ad 0)), (1, .int p1), (2, .int p2), (3, .int p3), (4, .int p4), (5, .int p5)]) hx hb dX10_plan_55 hl (by decide) rfl (fun ls hl => ?_)
          refine lv_iload hx hb dX10_plan_57 (lv_at hl 0 rfl) ?_
          refine lv_if_eq (tgt := 69) hx hb dX10_plan_59 (by decide) (fun b30 => ?_) (fun b30 => ?_)
          · have hF := zif_t b30 hF
            refine lv_aload_n hx hb dX10_plan_69 rfl (lv_at hl 1 rfl) ?_
            refine z_get (ci := 9) (C := RX10) (T := TX10) (N := 32) hx hb hts iX10_plan_X10 hown hK hP (by decide) zm_0 rfl 5 (by decide) kX10_plan_f77 rfl (v := .int (σ27 0 5)) rfl dX10_plan_70 ?_
            refine lv_if_ne (tgt := 79) hx hb dX10_plan_73 (by decide) (fun b31 => ?_) (fun b31 => ?_)
            · have hF := zif_f b31 hF
              refine lv_bipush (v := (60 : Int32)) hx hb dX10_plan_79 (by decide) ?_
              refine lv_iload_n hx hb dX10_plan_81 rfl (lv_at hl 2 rfl) ?_
              refine lv_imul hx hb dX10_plan_82 ?_
              refine lv_iload_n hx hb dX10_plan_83 rfl (lv_at hl 4 rfl) ?_
              refine lv_iadd hx hb dX10_plan_84 ?_
              refine lv_istore (lv' := [(7, .int (((60 : Int32) * p1) + p3)), (6, .int r28), (0, .ref (ad 0)), (1, .int p1), (2, .int p2), (3, .int p3), (4, .int p4), (5, .int p5)]) hx hb dX10_plan_85 hl (by decide) rfl (fun ls hl => ?_)
              refine lv_iconst (v := (0 : Int32)) hx hb dX10_plan_87 (by decide) ?_
              refine lv_istore (lv' := [(8, .int (0 : Int32)), (7, .int (((60 : Int32) * p1) + p3)), (6, .int r28), (0, .ref (ad 0)), (1, .int p1), (2, .int p2), (3, .int p3), (4, .int p4), (5, .int p5)]) hx hb dX10_plan_88 hl (by decide) rfl (fun ls hl => ?_)
              exact hB90 n σ27 p1 p2 p3 p4 p5 r28 (((60 : Int32) * p1) + p3) (0 : Int32) _ _ _ hF hP hD hS (lv_sub hl [3, 4, 5, 6, 7, 8, 2, 1, 0] rfl)
            · have hF := zif_t b31 hF
              refine lv_bipush (v := (-3 : Int32)) hx hb dX10_plan_76 (by decide) ?_
              exact z_iret hx hb hr hlocks hN hK hP hD hS hF dX10_plan_78
          · have hF := zif_f b30 hF
            refine lv_aload_n hx hb dX10_plan_62 rfl (lv_at hl 1 rfl) ?_
            refine lv_iload hx hb dX10_plan_63 (lv_at hl 0 rfl) ?_
            obtain ⟨r33, σ32, hC34, hF⟩ := zbd_inv hF
            refine z_calli (va_runV (As := [.int r28]) (rest := []) ⟨hx, hb, hml, hown, hts⟩ (CX10_fails l D cI cS cP ad A n σ27 σ32 r33 r28 hC34) (cwV 1 hts gX10_plan_X10_fails rfl rfl rfl (by decide +kernel) ⟨Nat.le_of_ble_eq_true rfl, Nat.le_of_ble_eq_true rfl⟩) (z_preV hN hK hP hD (by decide) zm_0 rfl) rfl rfl hl.1 rfl (lv_room (Nat.le_of_ble_eq_true rfl)) dX10_plan_65 ⟨Nat.zero_le _, Nat.zero_le _⟩) hS (fun H locs hP hD hS => ?_)
            exact z_iret hx hb hr hlocks hN hK hP hD hS hF dX10_plan_68
        · have hF := zif_t b26 hF
          refine lv_bipush (v := (-2 : Int32)) hx hb dX10_plan_43 (by decide) ?_
          exact z_iret hx hb hr hlocks hN hK hP hD hS hF dX10_plan_45
  · have hF := zif_t b14 hF
    refine lv_iconst (v := (-1 : Int32)) hx hb dX10_plan_12 (by decide) ?_
    exact z_iret hx hb hr hlocks hN hK hP hD hS hF dX10_plan_13
theorem kX10_canGive_f52 : Cond.fieldLink RX10 52 "LeastAskedModel" "given" "[I" ∈ wsX10_canGive := by decide +kernel
theorem kX10_canGive_f77 : Cond.fieldLink RX10 77 "LeastAskedModel" "people" "I" ∈ wsX10_canGive := by decide +kernel
theorem iX10_canGive_X10 : ∀ w ∈ u_ws RX10 TX10 32, w ∈ wsX10_canGive := fun _ h => List.mem_cons_of_mem _ (List.mem_append_right _ h)
set_option maxHeartbeats 4000000 in
set_option maxRecDepth 100000 in
theorem CX10_canGive (l : Launch) (D : va_G) (cI cS cP : ClassId) (ad : Nat → Nat) (A : Nat → Prop) (n : Nat) (σ σ' : zMem) (r0 : Int32) (p1 : Int32) (hF : FX10_canGive n σ p1 = some (r0, σ')) : Met l yX10_canGive wsX10_canGive ({ frames := 0, cells := 0, slots := 0, locals := 0 } : Room) (va_Pc [.ref (ad 0), .int p1] (zB (zm cI ad) 20 ad D (zty cI cS cP) A σ)) (va_Qi (fun r u => r = r0 ∧ u = σ') (zB (zm cI ad) 20 ad D (zty cI cS cP) A) A) 0 0 A := by
  refine Met.ofW (cc := cX10_canGive) (maxL := 5) (ret := (some .boolean)) (by decide) rfl ?_
  intro p e s m args below meth c s₁ B hml hv
  obtain ⟨rfl, hP, hK, hD, hN⟩ := hv
  have hx := B.exec
  have hb := B.bytes
  have hr := B.returns
  have hts := atoms_spec (ws := wsX10_canGive) B.pre
  have hown : s.vm.findClass RX10 = some m.cls := findClass_of_methodNamed B.named
  have hlocks := B.notSynchronized
  have hS : va_S A s.heap s.heap [] := va_S.rf
  have hl := lv_entry ([.ref (ad 0), .int p1]) (n := 5) (Nat.le_of_ble_eq_true rfl)
  rw [lg_entry_eq]
  generalize (lg_sl ([.ref (ad 0), .int p1]) ++ List.replicate (5 - (lg_sl ([.ref (ad 0), .int p1])).length) Slot.unset).toArray = ls at hl ⊢
  have hl : lv_has ls 5 [(0, .ref (ad 0)), (1, .int p1)] := hl
  clear B
  have hB39 : ∀ (f39 : Nat) (σ : zMem) (l1 : Int32) (l2 : Int32) (l3 : Int32), ∀ (H : Heap) (locs : List Loc) (ls : Array Slot), zlp (LX10_canGive_39 n) f39 (σ, l1, l2, l3) = some (r0, σ') → va_P D vwCl (zW (zm cI ad) 20 ad σ) H → va_D A (zW (zm cI ad) 20 ad σ) → va_S A s.heap H locs → lv_has ls 5 [(0, .ref (ad 0)), (1, .int l1), (2, .int l2), (3, .int l3)] → W p l e (headSpec wsX10_canGive ({ frames := 0, cells := 0, slots := 0, locals := 0 } : Room)).room s m ([.ref (ad 0), .int p1] : List Value).toArray below meth c H locs 0 0 (MQ below (va_Qi (fun r u => r = r0 ∧ u = σ') (zB (zm cI ad) 20 ad D (zty cI cS cP) A) A) ([.ref (ad 0), .int p1] : List Value).toArray s 0 0 A) (F0 m 39 ls []) := by
    intro f39
    induction f39 with
    | zero => intro σ l1 l2 l3 H locs ls hF hP hD hS hl; exact (zlp_0 hF).elim
    | succ f39 ih39 =>
      have hB47 : ∀ (f47 : Nat) (σ : zMem) (l1 : Int32) (l2 : Int32) (l3 : Int32) (l4 : Int32), ∀ (H : Heap) (locs : List Loc) (ls : Array Slot), zlp (LX10_canGive_47 n (zlp (LX10_canGive_39 n) f39)) f47 (σ, l1, l2, l3, l4) = some (r0, σ') → va_P D vwCl (zW (zm cI ad) 20 ad σ) H → va_D A (zW (zm cI ad) 20 ad σ) → va_S A s.heap H locs → lv_has ls 5 [(0, .ref (ad 0)), (1, .int l1), (2, .int l2), (3, .int l3), (4, .int l4)] → W p l e (headSpec wsX10_canGive ({ frames := 0, cells := 0, slots := 0, locals := 0 } : Room)).room s m ([.ref (ad 0), .int p1] : List Value).toArray below meth c H locs 0 0 (MQ below (va_Qi (fun r u => r = r0 ∧ u = σ') (zB (zm cI ad) 20 ad D (zty cI cS cP) A) A) ([.ref (ad 0), .int p1] : List Value).toArray s 0 0 A) (F0 m 47 ls []) := by
        intro f47
        induction f47 with
        | zero => intro σ l1 l2 l3 l4 H locs ls hF hP hD hS hl; exact (zlp_0 hF).elim
        | succ f47 ih47 =>
          intro σ l1 l2 l3 l4 H locs ls hF hP hD hS hl
          have hF : LBX10_canGive_47 n  (zlp (LX10_canGive_39 n) f39) (zlp (LX10_canGive_47 n (zlp (LX10_canGive_39 n) f39)) f47) σ l1 l2 l3 l4 = some (r0, σ') := hF
          unfold LBX10_canGive_47 at hF
          refine lv_iload hx hb dX10_canGive_47 (lv_at hl 4 rfl) ?_
          refine lv_iload_n hx hb dX10_canGive_49 rfl (lv_at hl 3 rfl) ?_
          refine lv_icmp_ge (tgt := 90) hx hb dX10_canGive_50 (by decide) (fun b1 => ?_) (fun b1 => ?_)
          · have hF := zif_t b1 hF
            refine lv_iinc (v := (l3 + (1 : Int32))) (lv' := [(3, .int (l3 + (1 : Int32))), (0, .ref (ad 0)), (1, .int l1), (2, .int l2), (4, .int l4)]) hx hb dX10_canGive_90 hl (k := 3) rfl rfl (by decide) rfl (fun ls hl => ?_)
            refine lv_goto (tgt := 39) hx hb dX10_canGive_93 (by decide) ?_
            exact ih39 σ l1 l2 (l3 + (1 : Int32)) _ _ _ hF hP hD hS (lv_sub hl [1, 2, 3, 0] rfl)
          · have hF := zif_f b1 hF
            refine lv_aload_n hx hb dX10_canGive_53 rfl (lv_at hl 0 rfl) ?_
            refine z_get (ci := 9) (C := RX10) (T := TX10) (N := 32) hx hb hts iX10_canGive_X10 hown hK hP (by decide) zm_0 rfl 24 (by decide) kX10_canGive_f52 rfl (v := .ref (ad 15)) rfl dX10_canGive_54 ?_
            refine lv_iload_n hx hb dX10_canGive_57 rfl (lv_at hl 3 rfl) ?_
            obtain ⟨g2, hF⟩ := zgd_inv hF
            refine z_iald hx hb hK hP (by decide) (zm_a (n := 3) (by decide)) rfl g2 dX10_canGive_58 ?_
            refine lv_aload_n hx hb dX10_canGive_59 rfl (lv_at hl 0 rfl) ?_
            refine z_get (ci := 9) (C := RX10) (T := TX10) (N := 32) hx hb hts iX10_canGive_X10 hown hK hP (by decide) zm_0 rfl 24 (by decide) kX10_canGive_f52 rfl (v := .ref (ad 15)) rfl dX10_canGive_60 ?_
            refine lv_iload hx hb dX10_canGive_63 (lv_at hl 4 rfl) ?_
            obtain ⟨g3, hF⟩ := zgd_inv hF
            refine z_iald hx hb hK hP (by decide) (zm_a (n := 3) (by decide)) rfl g3 dX10_canGive_65 ?_
            refine lv_icmp_ne (tgt := 84) hx hb dX10_canGive_66 (by decide) (fun b4 => ?_) (fun b4 => ?_)
            · have hF := zif_f b4 hF
              refine lv_iinc (v := (l4 + (1 : Int32))) (lv' := [(4, .int (l4 + (1 : Int32))), (0, .ref (ad 0)), (1, .int l1), (2, .int l2), (3, .int l3)]) hx hb dX10_canGive_84 hl (k := 4) rfl rfl (by decide) rfl (fun ls hl => ?_)
              refine lv_goto (tgt := 47) hx hb dX10_canGive_87 (by decide) ?_
              exact ih47 σ l1 l2 l3 (l4 + (1 : Int32)) _ _ _ hF hP hD hS (lv_sub hl [1, 2, 3, 4, 0] rfl)
            · have hF := zif_t b4 hF
              refine lv_aload_n hx hb dX10_canGive_69 rfl (lv_at hl 0 rfl) ?_
              refine z_get (ci := 9) (C := RX10) (T := TX10) (N := 32) hx hb hts iX10_canGive_X10 hown hK hP (by decide) zm_0 rfl 24 (by decide) kX10_canGive_f52 rfl (v := .ref (ad 15)) rfl dX10_canGive_70 ?_
              refine lv_iload_n hx hb dX10_canGive_73 rfl (lv_at hl 3 rfl) ?_
              obtain ⟨g5, hF⟩ := zgd_inv hF
              refine z_iald hx hb hK hP (by decide) (zm_a (n := 3) (by decide)) rfl g5 dX10_canGive_74 ?_
              refine lv_aload_n hx hb dX10_canGive_75 rfl (lv_at hl 0 rfl) ?_
              refine z_get (ci := 9) (C := RX10) (T := TX10) (N := 32) hx hb hts iX10_canGive_X10 hown hK hP (by decide) zm_0 rfl 5 (by decide) kX10_canGive_f77 rfl (v := .int (σ 0 5)) rfl dX10_canGive_76 ?_
              refine lv_icmp_ge (tgt := 84) hx hb dX10_canGive_79 (by decide) (fun b6 => ?_) (fun b6 => ?_)
              · have hF := zif_t b6 hF
                refine lv_iinc (v := (l4 + (1 : Int32))) (lv' := [(4, .int (l4 + (1 : Int32))), (0, .ref (ad 0)), (1, .int l1), (2, .int l2), (3, .int l3)]) hx hb dX10_canGive_84 hl (k := 4) rfl rfl (by decide) rfl (fun ls hl => ?_)
                refine lv_goto (tgt := 47) hx hb dX10_canGive_87 (by decide) ?_
                exact ih47 σ l1 l2 l3 (l4 + (1 : Int32)) _ _ _ hF hP hD hS (lv_sub hl [1, 2, 3, 4, 0] rfl)
              · have hF := zif_f b6 hF
                refine lv_iconst (v := (0 : Int32)) hx hb dX10_canGive_82 (by decide) ?_
                exact z_zret hx hb hr hlocks (Or.inl rfl) hN hK hP hD hS hF dX10_canGive_83
      intro σ l1 l2 l3 H locs ls hF hP hD hS hl
      have hF : LBX10_canGive_39 n   (zlp (LX10_canGive_39 n) f39) σ l1 l2 l3 = some (r0, σ') := hF
      unfold LBX10_canGive_39 at hF
      refine lv_iload_n hx hb dX10_canGive_39 rfl (lv_at hl 3 rfl) ?_
      refine lv_iconst (v := (3 : Int32)) hx hb dX10_canGive_40 (by decide) ?_
      refine lv_icmp_ge (tgt := 96) hx hb dX10_canGive_41 (by decide) (fun b7 => ?_) (fun b7 => ?_)
      · have hF := zif_t b7 hF
        refine lv_iconst (v := (1 : Int32)) hx hb dX10_canGive_96 (by decide) ?_
        exact z_zret hx hb hr hlocks (Or.inr rfl) hN hK hP hD hS hF dX10_canGive_97
      · have hF := zif_f b7 hF
        refine lv_iconst (v := (0 : Int32)) hx hb dX10_canGive_44 (by decide) ?_
        refine lv_istore (lv' := [(4, .int (0 : Int32)), (0, .ref (ad 0)), (1, .int l1), (2, .int l2), (3, .int l3)]) hx hb dX10_canGive_45 hl (by decide) rfl (fun ls hl => ?_)
        exact hB47 n σ l1 l2 l3 (0 : Int32) _ _ _ hF hP hD hS (lv_sub hl [1, 2, 3, 4, 0] rfl)
  have hB4 : ∀ (f4 : Nat) (σ : zMem) (l1 : Int32) (l2 : Int32) (l3 : Int32), ∀ (H : Heap) (locs : List Loc) (ls : Array Slot), zlp (LX10_canGive_4 n) f4 (σ, l1, l2, l3) = some (r0, σ') → va_P D vwCl (zW (zm cI ad) 20 ad σ) H → va_D A (zW (zm cI ad) 20 ad σ) → va_S A s.heap H locs → lv_has ls 5 [(0, .ref (ad 0)), (1, .int l1), (2, .int l2), (3, .int l3)] → W p l e (headSpec wsX10_canGive ({ frames := 0, cells := 0, slots := 0, locals := 0 } : Room)).room s m ([.ref (ad 0), .int p1] : List Value).toArray below meth c H locs 0 0 (MQ below (va_Qi (fun r u => r = r0 ∧ u = σ') (zB (zm cI ad) 20 ad D (zty cI cS cP) A) A) ([.ref (ad 0), .int p1] : List Value).toArray s 0 0 A) (F0 m 4 ls []) := by
    intro f4
    induction f4 with
    | zero => intro σ l1 l2 l3 H locs ls hF hP hD hS hl; exact (zlp_0 hF).elim
    | succ f4 ih4 =>
      intro σ l1 l2 l3 H locs ls hF hP hD hS hl
      have hF : LBX10_canGive_4 n   (zlp (LX10_canGive_4 n) f4) σ l1 l2 l3 = some (r0, σ') := hF
      unfold LBX10_canGive_4 at hF
      refine lv_iload_n hx hb dX10_canGive_4 rfl (lv_at hl 3 rfl) ?_
      refine lv_if_lt (tgt := 37) hx hb dX10_canGive_5 (by decide) (fun b8 => ?_) (fun b8 => ?_)
      · have hF := zif_t b8 hF
        refine lv_iconst (v := (0 : Int32)) hx hb dX10_canGive_37 (by decide) ?_
        refine lv_istore_n (lv' := [(3, .int (0 : Int32)), (0, .ref (ad 0)), (1, .int l1), (2, .int l2)]) hx hb dX10_canGive_38 rfl hl (by decide) rfl (fun ls hl => ?_)
        exact hB39 n σ l1 l2 (0 : Int32) _ _ _ hF hP hD hS (lv_sub hl [1, 2, 3, 0] rfl)
      · have hF := zif_f b8 hF
        refine lv_aload_n hx hb dX10_canGive_8 rfl (lv_at hl 0 rfl) ?_
        refine z_get (ci := 9) (C := RX10) (T := TX10) (N := 32) hx hb hts iX10_canGive_X10 hown hK hP (by decide) zm_0 rfl 24 (by decide) kX10_canGive_f52 rfl (v := .ref (ad 15)) rfl dX10_canGive_9 ?_
        refine lv_iload_n hx hb dX10_canGive_12 rfl (lv_at hl 3 rfl) ?_
        refine lv_iload_n hx hb dX10_canGive_13 rfl (lv_at hl 2 rfl) ?_
        refine lv_aload_n hx hb dX10_canGive_14 rfl (lv_at hl 0 rfl) ?_
        refine z_get (ci := 9) (C := RX10) (T := TX10) (N := 32) hx hb hts iX10_canGive_X10 hown hK hP (by decide) zm_0 rfl 5 (by decide) kX10_canGive_f77 rfl (v := .int (σ 0 5)) rfl dX10_canGive_15 ?_
        refine lv_iconst (v := (1 : Int32)) hx hb dX10_canGive_18 (by decide) ?_
        refine lv_iadd hx hb dX10_canGive_19 ?_
        obtain ⟨g9, hF⟩ := zgd_inv hF
        refine lv_irem hx hb dX10_canGive_20 g9 ?_
        obtain ⟨g10, hF⟩ := zgd_inv hF
        obtain ⟨σ11, eσ11, hF⟩ := zlet_inv hF
        refine z_iast hx hb hK hP hD hS (by decide) (fun _ => (zm_a (n := 3) (by decide))) rfl g10 dX10_canGive_21 (fun H locs hP hD hS => ?_)
        have hP : va_P D vwCl (zW (zm cI ad) 20 ad σ11) H := by rw [eσ11]; exact hP
        have hD : va_D A (zW (zm cI ad) 20 ad σ11) := by rw [eσ11]; exact hD
        refine lv_iload_n hx hb dX10_canGive_22 rfl (lv_at hl 2 rfl) ?_
        refine lv_aload_n hx hb dX10_canGive_23 rfl (lv_at hl 0 rfl) ?_
        refine z_get (ci := 9) (C := RX10) (T := TX10) (N := 32) hx hb hts iX10_canGive_X10 hown hK hP (by decide) zm_0 rfl 5 (by decide) kX10_canGive_f77 rfl (v := .int (σ11 0 5)) rfl dX10_canGive_24 ?_
        refine lv_iconst (v := (1 : Int32)) hx hb dX10_canGive_27 (by decide) ?_
        refine lv_iadd hx hb dX10_canGive_28 ?_
        obtain ⟨g12, hF⟩ := zgd_inv hF
        refine lv_idiv hx hb dX10_canGive_29 g12 ?_
        refine lv_istore_n (lv' := [(2, .int (l2 / ((σ11 0 5) + (1 : Int32)))), (0, .ref (ad 0)), (1, .int l1), (3, .int l3)]) hx hb dX10_canGive_30 rfl hl (by decide) rfl (fun ls hl => ?_)
        refine lv_iinc (v := (l3 + (-1 : Int32))) (lv' := [(3, .int (l3 + (-1 : Int32))), (2, .int (l2 / ((σ11 0 5) + (1 : Int32)))), (0, .ref (ad 0)), (1, .int l1)]) hx hb dX10_canGive_31 hl (k := 3) rfl rfl (by decide) rfl (fun ls hl => ?_)
        refine lv_goto (tgt := 4) hx hb dX10_canGive_34 (by decide) ?_
        exact ih4 σ11 l1 (l2 / ((σ11 0 5) + (1 : Int32))) (l3 + (-1 : Int32)) _ _ _ hF hP hD hS (lv_sub hl [2, 3, 1, 0] rfl)
  unfold FX10_canGive at hF
  refine lv_iload_n hx hb dX10_canGive_0 rfl (lv_at hl 1 rfl) ?_
  refine lv_istore_n (lv' := [(2, .int p1), (0, .ref (ad 0)), (1, .int p1)]) hx hb dX10_canGive_1 rfl hl (by decide) rfl (fun ls hl => ?_)
  refine lv_iconst (v := (2 : Int32)) hx hb dX10_canGive_2 (by decide) ?_
  refine lv_istore_n (lv' := [(3, .int (2 : Int32)), (2, .int p1), (0, .ref (ad 0)), (1, .int p1)]) hx hb dX10_canGive_3 rfl hl (by decide) rfl (fun ls hl => ?_)
  exact hB4 n σ p1 p1 (2 : Int32) _ _ _ hF hP hD hS (lv_sub hl [2, 3, 1, 0] rfl)
theorem kX10_tryGiven_f55 : Cond.fieldLink RX10 55 "LeastAskedModel" "bestGiven" "[I" ∈ wsX10_tryGiven := by decide +kernel
theorem kX10_tryGiven_f52 : Cond.fieldLink RX10 52 "LeastAskedModel" "given" "[I" ∈ wsX10_tryGiven := by decide +kernel
theorem kX10_tryGiven_f194 : Cond.fieldLink RX10 194 "LeastAskedModel" "bestMany" "I" ∈ wsX10_tryGiven := by decide +kernel
theorem kX10_tryGiven_f197 : Cond.fieldLink RX10 197 "LeastAskedModel" "bestSum" "I" ∈ wsX10_tryGiven := by decide +kernel
theorem kX10_tryGiven_f77 : Cond.fieldLink RX10 77 "LeastAskedModel" "people" "I" ∈ wsX10_tryGiven := by decide +kernel
theorem iX10_tryGiven_X10 : ∀ w ∈ u_ws RX10 TX10 32, w ∈ wsX10_tryGiven := fun _ h => List.mem_cons_of_mem _ (List.mem_append_right _ h)
set_option maxHeartbeats 4000000 in
set_option maxRecDepth 100000 in
theorem CX10_tryGiven (l : Launch) (D : va_G) (cI cS cP : ClassId) (ad : Nat → Nat) (A : Nat → Prop) (n : Nat) (σ σ' : zMem) (r0 : Int32) (hF : FX10_tryGiven n σ = some (r0, σ')) : Met l yX10_tryGiven wsX10_tryGiven ({ frames := 2, cells := 0, slots := 0, locals := 43 } : Room) (va_Pc [.ref (ad 0)] (zB (zm cI ad) 20 ad D (zty cI cS cP) A σ)) (va_Qv (fun u => u = σ') (zB (zm cI ad) 20 ad D (zty cI cS cP) A) A) 0 0 A := by
  refine Met.ofW (cc := cX10_tryGiven) (maxL := 4) (ret := none) (by decide) rfl ?_
  intro p e s m args below meth c s₁ B hml hv
  obtain ⟨rfl, hP, hK, hD, hN⟩ := hv
  have hx := B.exec
  have hb := B.bytes
  have hr := B.returns
  have hts := atoms_spec (ws := wsX10_tryGiven) B.pre
  have hown : s.vm.findClass RX10 = some m.cls := findClass_of_methodNamed B.named
  have hlocks := B.notSynchronized
  have hS : va_S A s.heap s.heap [] := va_S.rf
  have hl := lv_entry ([.ref (ad 0)]) (n := 4) (Nat.le_of_ble_eq_true rfl)
  rw [lg_entry_eq]
  generalize (lg_sl ([.ref (ad 0)]) ++ List.replicate (4 - (lg_sl ([.ref (ad 0)])).length) Slot.unset).toArray = ls at hl ⊢
  have hl : lv_has ls 4 [(0, .ref (ad 0))] := hl
  clear B
  have hB105 : ∀ (f105 : Nat) (σ : zMem) (l1 : Int32) (l2 : Int32) (l3 : Int32), ∀ (H : Heap) (locs : List Loc) (ls : Array Slot), zlp (LX10_tryGiven_105 n) f105 (σ, l1, l2, l3) = some (r0, σ') → va_P D vwCl (zW (zm cI ad) 20 ad σ) H → va_D A (zW (zm cI ad) 20 ad σ) → va_S A s.heap H locs → lv_has ls 4 [(0, .ref (ad 0)), (1, .int l1), (2, .int l2), (3, .int l3)] → W p l e (headSpec wsX10_tryGiven ({ frames := 2, cells := 0, slots := 0, locals := 43 } : Room)).room s m ([.ref (ad 0)] : List Value).toArray below meth c H locs 0 0 (MQ below (va_Qv (fun u => u = σ') (zB (zm cI ad) 20 ad D (zty cI cS cP) A) A) ([.ref (ad 0)] : List Value).toArray s 0 0 A) (F0 m 105 ls []) := by
    intro f105
    induction f105 with
    | zero => intro σ l1 l2 l3 H locs ls hF hP hD hS hl; exact (zlp_0 hF).elim
    | succ f105 ih105 =>
      intro σ l1 l2 l3 H locs ls hF hP hD hS hl
      have hF : LBX10_tryGiven_105 n   (zlp (LX10_tryGiven_105 n) f105) σ l1 l2 l3 = some (r0, σ') := hF
      unfold LBX10_tryGiven_105 at hF
      refine lv_iload_n hx hb dX10_tryGiven_105 rfl (lv_at hl 3 rfl) ?_
      refine lv_iconst (v := (3 : Int32)) hx hb dX10_tryGiven_106 (by decide) ?_
      refine lv_icmp_ge (tgt := 128) hx hb dX10_tryGiven_107 (by decide) (fun b1 => ?_) (fun b1 => ?_)
      · have hF := zif_t b1 hF
        exact z_vret hx hb hr hlocks hN hK hP hD hS hF dX10_tryGiven_128
      · have hF := zif_f b1 hF
        refine lv_aload_n hx hb dX10_tryGiven_110 rfl (lv_at hl 0 rfl) ?_
        refine z_get (ci := 9) (C := RX10) (T := TX10) (N := 32) hx hb hts iX10_tryGiven_X10 hown hK hP (by decide) zm_0 rfl 25 (by decide) kX10_tryGiven_f55 rfl (v := .ref (ad 16)) rfl dX10_tryGiven_111 ?_
        refine lv_iload_n hx hb dX10_tryGiven_114 rfl (lv_at hl 3 rfl) ?_
        refine lv_aload_n hx hb dX10_tryGiven_115 rfl (lv_at hl 0 rfl) ?_
        refine z_get (ci := 9) (C := RX10) (T := TX10) (N := 32) hx hb hts iX10_tryGiven_X10 hown hK hP (by decide) zm_0 rfl 24 (by decide) kX10_tryGiven_f52 rfl (v := .ref (ad 15)) rfl dX10_tryGiven_116 ?_
        refine lv_iload_n hx hb dX10_tryGiven_119 rfl (lv_at hl 3 rfl) ?_
        obtain ⟨g2, hF⟩ := zgd_inv hF
        refine z_iald hx hb hK hP (by decide) (zm_a (n := 3) (by decide)) rfl g2 dX10_tryGiven_120 ?_
        obtain ⟨g3, hF⟩ := zgd_inv hF
        obtain ⟨σ4, eσ4, hF⟩ := zlet_inv hF
        refine z_iast hx hb hK hP hD hS (by decide) (fun _ => (zm_a (n := 3) (by decide))) rfl g3 dX10_tryGiven_121 (fun H locs hP hD hS => ?_)
        have hP : va_P D vwCl (zW (zm cI ad) 20 ad σ4) H := by rw [eσ4]; exact hP
        have hD : va_D A (zW (zm cI ad) 20 ad σ4) := by rw [eσ4]; exact hD
        refine lv_iinc (v := (l3 + (1 : Int32))) (lv' := [(3, .int (l3 + (1 : Int32))), (0, .ref (ad 0)), (1, .int l1), (2, .int l2)]) hx hb dX10_tryGiven_122 hl (k := 3) rfl rfl (by decide) rfl (fun ls hl => ?_)
        refine lv_goto (tgt := 105) hx hb dX10_tryGiven_125 (by decide) ?_
        exact ih105 σ4 l1 l2 (l3 + (1 : Int32)) _ _ _ hF hP hD hS (lv_sub hl [1, 2, 3, 0] rfl)
  have hB93 : ∀ (σ : zMem) (l1 : Int32) (l2 : Int32) (l3 : Int32), ∀ (H : Heap) (locs : List Loc) (ls : Array Slot), BX10_tryGiven_93 n σ l1 l2 l3 = some (r0, σ') → va_P D vwCl (zW (zm cI ad) 20 ad σ) H → va_D A (zW (zm cI ad) 20 ad σ) → va_S A s.heap H locs → lv_has ls 4 [(0, .ref (ad 0)), (1, .int l1), (2, .int l2), (3, .int l3)] → W p l e (headSpec wsX10_tryGiven ({ frames := 2, cells := 0, slots := 0, locals := 43 } : Room)).room s m ([.ref (ad 0)] : List Value).toArray below meth c H locs 0 0 (MQ below (va_Qv (fun u => u = σ') (zB (zm cI ad) 20 ad D (zty cI cS cP) A) A) ([.ref (ad 0)] : List Value).toArray s 0 0 A) (F0 m 93 ls []) := by
    intro σ l1 l2 l3 H locs ls hF hP hD hS hl
    unfold BX10_tryGiven_93 at hF
    refine lv_aload_n hx hb dX10_tryGiven_93 rfl (lv_at hl 0 rfl) ?_
    refine lv_iload_n hx hb dX10_tryGiven_94 rfl (lv_at hl 1 rfl) ?_
    obtain ⟨σ5, eσ5, hF⟩ := zlet_inv hF
    refine z_put (ci := 9) (C := RX10) (T := TX10) (N := 32) hx hb hts iX10_tryGiven_X10 tyX10 tyX10_ok nmX10 hown hK hP hD hS (by decide) zm_0 rfl 26 (by decide) kX10_tryGiven_f194 rfl rfl rfl rfl (Nat.le_of_ble_eq_true rfl) zm_0 dX10_tryGiven_95 (fun H locs hP hD hS => ?_)
    have hP : va_P D vwCl (zW (zm cI ad) 20 ad σ5) H := by rw [eσ5]; exact hP
    have hD : va_D A (zW (zm cI ad) 20 ad σ5) := by rw [eσ5]; exact hD
    refine lv_aload_n hx hb dX10_tryGiven_98 rfl (lv_at hl 0 rfl) ?_
    refine lv_iload_n hx hb dX10_tryGiven_99 rfl (lv_at hl 2 rfl) ?_
    obtain ⟨σ6, eσ6, hF⟩ := zlet_inv hF
    refine z_put (ci := 9) (C := RX10) (T := TX10) (N := 32) hx hb hts iX10_tryGiven_X10 tyX10 tyX10_ok nmX10 hown hK hP hD hS (by decide) zm_0 rfl 27 (by decide) kX10_tryGiven_f197 rfl rfl rfl rfl (Nat.le_of_ble_eq_true rfl) zm_0 dX10_tryGiven_100 (fun H locs hP hD hS => ?_)
    have hP : va_P D vwCl (zW (zm cI ad) 20 ad σ6) H := by rw [eσ6]; exact hP
    have hD : va_D A (zW (zm cI ad) 20 ad σ6) := by rw [eσ6]; exact hD
    refine lv_iconst (v := (0 : Int32)) hx hb dX10_tryGiven_103 (by decide) ?_
    refine lv_istore_n (lv' := [(3, .int (0 : Int32)), (0, .ref (ad 0)), (1, .int l1), (2, .int l2)]) hx hb dX10_tryGiven_104 rfl hl (by decide) rfl (fun ls hl => ?_)
    exact hB105 n σ6 l1 l2 (0 : Int32) _ _ _ hF hP hD hS (lv_sub hl [1, 2, 3, 0] rfl)
  have hB6 : ∀ (f6 : Nat) (σ : zMem) (l1 : Int32) (l2 : Int32) (l3 : Int32), ∀ (H : Heap) (locs : List Loc) (ls : Array Slot), zlp (LX10_tryGiven_6 n) f6 (σ, l1, l2, l3) = some (r0, σ') → va_P D vwCl (zW (zm cI ad) 20 ad σ) H → va_D A (zW (zm cI ad) 20 ad σ) → va_S A s.heap H locs → lv_has ls 4 [(0, .ref (ad 0)), (1, .int l1), (2, .int l2), (3, .int l3)] → W p l e (headSpec wsX10_tryGiven ({ frames := 2, cells := 0, slots := 0, locals := 43 } : Room)).room s m ([.ref (ad 0)] : List Value).toArray below meth c H locs 0 0 (MQ below (va_Qv (fun u => u = σ') (zB (zm cI ad) 20 ad D (zty cI cS cP) A) A) ([.ref (ad 0)] : List Value).toArray s 0 0 A) (F0 m 6 ls []) := by
    intro f6
    induction f6 with
    | zero => intro σ l1 l2 l3 H locs ls hF hP hD hS hl; exact (zlp_0 hF).elim
    | succ f6 ih6 =>
      have hB61 : ∀ (σ : zMem) (l1 : Int32) (l2 : Int32) (l3 : Int32) (s0 : Int32) (s1 : Int32), ∀ (H : Heap) (locs : List Loc) (ls : Array Slot), BX10_tryGiven_61 n (zlp (LX10_tryGiven_6 n) f6) σ l1 l2 l3 s0 s1 = some (r0, σ') → va_P D vwCl (zW (zm cI ad) 20 ad σ) H → va_D A (zW (zm cI ad) 20 ad σ) → va_S A s.heap H locs → lv_has ls 4 [(0, .ref (ad 0)), (1, .int l1), (2, .int l2), (3, .int l3)] → W p l e (headSpec wsX10_tryGiven ({ frames := 2, cells := 0, slots := 0, locals := 43 } : Room)).room s m ([.ref (ad 0)] : List Value).toArray below meth c H locs 0 0 (MQ below (va_Qv (fun u => u = σ') (zB (zm cI ad) 20 ad D (zty cI cS cP) A) A) ([.ref (ad 0)] : List Value).toArray s 0 0 A) (F0 m 61 ls [.int s1, .int s0]) := by
        intro σ l1 l2 l3 s0 s1 H locs ls hF hP hD hS hl
        unfold BX10_tryGiven_61 at hF
        refine lv_iadd hx hb dX10_tryGiven_61 ?_
        refine lv_istore_n (lv' := [(2, .int (s0 + s1)), (0, .ref (ad 0)), (1, .int l1), (3, .int l3)]) hx hb dX10_tryGiven_62 rfl hl (by decide) rfl (fun ls hl => ?_)
        refine lv_iinc (v := (l3 + (1 : Int32))) (lv' := [(3, .int (l3 + (1 : Int32))), (2, .int (s0 + s1)), (0, .ref (ad 0)), (1, .int l1)]) hx hb dX10_tryGiven_63 hl (k := 3) rfl rfl (by decide) rfl (fun ls hl => ?_)
        refine lv_goto (tgt := 6) hx hb dX10_tryGiven_66 (by decide) ?_
        exact ih6 σ l1 (s0 + s1) (l3 + (1 : Int32)) _ _ _ hF hP hD hS (lv_sub hl [2, 3, 1, 0] rfl)
      have hB30 : ∀ (σ : zMem) (l1 : Int32) (l2 : Int32) (l3 : Int32) (s0 : Int32) (s1 : Int32), ∀ (H : Heap) (locs : List Loc) (ls : Array Slot), BX10_tryGiven_30 n (zlp (LX10_tryGiven_6 n) f6) σ l1 l2 l3 s0 s1 = some (r0, σ') → va_P D vwCl (zW (zm cI ad) 20 ad σ) H → va_D A (zW (zm cI ad) 20 ad σ) → va_S A s.heap H locs → lv_has ls 4 [(0, .ref (ad 0)), (1, .int l1), (2, .int l2), (3, .int l3)] → W p l e (headSpec wsX10_tryGiven ({ frames := 2, cells := 0, slots := 0, locals := 43 } : Room)).room s m ([.ref (ad 0)] : List Value).toArray below meth c H locs 0 0 (MQ below (va_Qv (fun u => u = σ') (zB (zm cI ad) 20 ad D (zty cI cS cP) A) A) ([.ref (ad 0)] : List Value).toArray s 0 0 A) (F0 m 30 ls [.int s1, .int s0]) := by
        intro σ l1 l2 l3 s0 s1 H locs ls hF hP hD hS hl
        unfold BX10_tryGiven_30 at hF
        refine lv_iadd hx hb dX10_tryGiven_30 ?_
        refine lv_istore_n (lv' := [(1, .int (s0 + s1)), (0, .ref (ad 0)), (2, .int l2), (3, .int l3)]) hx hb dX10_tryGiven_31 rfl hl (by decide) rfl (fun ls hl => ?_)
        refine lv_iload_n hx hb dX10_tryGiven_32 rfl (lv_at hl 2 rfl) ?_
        refine lv_aload_n hx hb dX10_tryGiven_33 rfl (lv_at hl 1 rfl) ?_
        refine z_get (ci := 9) (C := RX10) (T := TX10) (N := 32) hx hb hts iX10_tryGiven_X10 hown hK hP (by decide) zm_0 rfl 24 (by decide) kX10_tryGiven_f52 rfl (v := .ref (ad 15)) rfl dX10_tryGiven_34 ?_
        refine lv_iload_n hx hb dX10_tryGiven_37 rfl (lv_at hl 3 rfl) ?_
        obtain ⟨g7, hF⟩ := zgd_inv hF
        refine z_iald hx hb hK hP (by decide) (zm_a (n := 3) (by decide)) rfl g7 dX10_tryGiven_38 ?_
        refine lv_aload_n hx hb dX10_tryGiven_39 rfl (lv_at hl 1 rfl) ?_
        refine z_get (ci := 9) (C := RX10) (T := TX10) (N := 32) hx hb hts iX10_tryGiven_X10 hown hK hP (by decide) zm_0 rfl 5 (by decide) kX10_tryGiven_f77 rfl (v := .int (σ 0 5)) rfl dX10_tryGiven_40 ?_
        refine lv_icmp_ge (tgt := 60) hx hb dX10_tryGiven_43 (by decide) (fun b8 => ?_) (fun b8 => ?_)
        · have hF := zif_t b8 hF
          refine lv_iconst (v := (0 : Int32)) hx hb dX10_tryGiven_60 (by decide) ?_
          exact hB61 σ (s0 + s1) l2 l3 l2 (0 : Int32) _ _ _ hF hP hD hS (lv_sub hl [1, 0, 2, 3] rfl)
        · have hF := zif_f b8 hF
          refine lv_aload_n hx hb dX10_tryGiven_46 rfl (lv_at hl 1 rfl) ?_
          refine lv_aload_n hx hb dX10_tryGiven_47 rfl (lv_at hl 1 rfl) ?_
          refine z_get (ci := 9) (C := RX10) (T := TX10) (N := 32) hx hb hts iX10_tryGiven_X10 hown hK hP (by decide) zm_0 rfl 24 (by decide) kX10_tryGiven_f52 rfl (v := .ref (ad 15)) rfl dX10_tryGiven_48 ?_
          refine lv_iload_n hx hb dX10_tryGiven_51 rfl (lv_at hl 3 rfl) ?_
          obtain ⟨g9, hF⟩ := zgd_inv hF
          refine z_iald hx hb hK hP (by decide) (zm_a (n := 3) (by decide)) rfl g9 dX10_tryGiven_52 ?_
          refine lv_iload_n hx hb dX10_tryGiven_53 rfl (lv_at hl 3 rfl) ?_
          obtain ⟨r11, σ10, hC12, hF⟩ := zbd_inv hF
          refine z_calli (va_runV (As := [.int (σ 15 (l3 : Int32).toNatClampNeg), .int l3]) (rest := [.int l2]) ⟨hx, hb, hml, hown, hts⟩ (CX10_bringsOf l D cI cS cP ad A n σ σ10 r11 (σ 15 (l3 : Int32).toNatClampNeg) l3 hC12) (cwV 2 hts gX10_tryGiven_X10_bringsOf rfl rfl rfl (by decide +kernel) ⟨Nat.le_of_ble_eq_true rfl, Nat.le_of_ble_eq_true rfl⟩) (z_preV hN hK hP hD (by decide) zm_0 rfl) rfl rfl hl.1 rfl (lv_room (Nat.le_of_ble_eq_true rfl)) dX10_tryGiven_54 ⟨Nat.zero_le _, Nat.zero_le _⟩) hS (fun H locs hP hD hS => ?_)
          refine lv_goto (tgt := 61) hx hb dX10_tryGiven_57 (by decide) ?_
          exact hB61 σ10 (s0 + s1) l2 l3 l2 r11 _ _ _ hF hP hD hS (lv_sub hl [1, 0, 2, 3] rfl)
      intro σ l1 l2 l3 H locs ls hF hP hD hS hl
      have hF : LBX10_tryGiven_6 n   (zlp (LX10_tryGiven_6 n) f6) σ l1 l2 l3 = some (r0, σ') := hF
      unfold LBX10_tryGiven_6 at hF
      refine lv_iload_n hx hb dX10_tryGiven_6 rfl (lv_at hl 3 rfl) ?_
      refine lv_iconst (v := (3 : Int32)) hx hb dX10_tryGiven_7 (by decide) ?_
      refine lv_icmp_ge (tgt := 69) hx hb dX10_tryGiven_8 (by decide) (fun b13 => ?_) (fun b13 => ?_)
      · have hF := zif_t b13 hF
        refine lv_iload_n hx hb dX10_tryGiven_69 rfl (lv_at hl 1 rfl) ?_
        refine lv_aload_n hx hb dX10_tryGiven_70 rfl (lv_at hl 0 rfl) ?_
        refine z_get (ci := 9) (C := RX10) (T := TX10) (N := 32) hx hb hts iX10_tryGiven_X10 hown hK hP (by decide) zm_0 rfl 26 (by decide) kX10_tryGiven_f194 rfl (v := .int (σ 0 26)) rfl dX10_tryGiven_71 ?_
        refine lv_icmp_gt (tgt := 93) hx hb dX10_tryGiven_74 (by decide) (fun b14 => ?_) (fun b14 => ?_)
        · have hF := zif_t b14 hF
          exact hB93 σ l1 l2 l3 _ _ _ hF hP hD hS (lv_sub hl [0, 1, 2, 3] rfl)
        · have hF := zif_f b14 hF
          refine lv_iload_n hx hb dX10_tryGiven_77 rfl (lv_at hl 1 rfl) ?_
          refine lv_aload_n hx hb dX10_tryGiven_78 rfl (lv_at hl 0 rfl) ?_
          refine z_get (ci := 9) (C := RX10) (T := TX10) (N := 32) hx hb hts iX10_tryGiven_X10 hown hK hP (by decide) zm_0 rfl 26 (by decide) kX10_tryGiven_f194 rfl (v := .int (σ 0 26)) rfl dX10_tryGiven_79 ?_
          refine lv_icmp_ne (tgt := 128) hx hb dX10_tryGiven_82 (by decide) (fun b15 => ?_) (fun b15 => ?_)
          · have hF := zif_f b15 hF
            exact z_vret hx hb hr hlocks hN hK hP hD hS hF dX10_tryGiven_128
          · have hF := zif_t b15 hF
            refine lv_iload_n hx hb dX10_tryGiven_85 rfl (lv_at hl 2 rfl) ?_
            refine lv_aload_n hx hb dX10_tryGiven_86 rfl (lv_at hl 0 rfl) ?_
            refine z_get (ci := 9) (C := RX10) (T := TX10) (N := 32) hx hb hts iX10_tryGiven_X10 hown hK hP (by decide) zm_0 rfl 27 (by decide) kX10_tryGiven_f197 rfl (v := .int (σ 0 27)) rfl dX10_tryGiven_87 ?_
            refine lv_icmp_le (tgt := 128) hx hb dX10_tryGiven_90 (by decide) (fun b16 => ?_) (fun b16 => ?_)
            · have hF := zif_t b16 hF
              exact z_vret hx hb hr hlocks hN hK hP hD hS hF dX10_tryGiven_128
            · have hF := zif_f b16 hF
              exact hB93 σ l1 l2 l3 _ _ _ hF hP hD hS (lv_sub hl [0, 1, 2, 3] rfl)
      · have hF := zif_f b13 hF
        refine lv_iload_n hx hb dX10_tryGiven_11 rfl (lv_at hl 1 rfl) ?_
        refine lv_aload_n hx hb dX10_tryGiven_12 rfl (lv_at hl 0 rfl) ?_
        refine z_get (ci := 9) (C := RX10) (T := TX10) (N := 32) hx hb hts iX10_tryGiven_X10 hown hK hP (by decide) zm_0 rfl 24 (by decide) kX10_tryGiven_f52 rfl (v := .ref (ad 15)) rfl dX10_tryGiven_13 ?_
        refine lv_iload_n hx hb dX10_tryGiven_16 rfl (lv_at hl 3 rfl) ?_
        obtain ⟨g17, hF⟩ := zgd_inv hF
        refine z_iald hx hb hK hP (by decide) (zm_a (n := 3) (by decide)) rfl g17 dX10_tryGiven_17 ?_
        refine lv_aload_n hx hb dX10_tryGiven_18 rfl (lv_at hl 0 rfl) ?_
        refine z_get (ci := 9) (C := RX10) (T := TX10) (N := 32) hx hb hts iX10_tryGiven_X10 hown hK hP (by decide) zm_0 rfl 5 (by decide) kX10_tryGiven_f77 rfl (v := .int (σ 0 5)) rfl dX10_tryGiven_19 ?_
        refine lv_icmp_ge (tgt := 29) hx hb dX10_tryGiven_22 (by decide) (fun b18 => ?_) (fun b18 => ?_)
        · have hF := zif_t b18 hF
          refine lv_iconst (v := (0 : Int32)) hx hb dX10_tryGiven_29 (by decide) ?_
          exact hB30 σ l1 l2 l3 l1 (0 : Int32) _ _ _ hF hP hD hS (lv_sub hl [0, 1, 2, 3] rfl)
        · have hF := zif_f b18 hF
          refine lv_iconst (v := (1 : Int32)) hx hb dX10_tryGiven_25 (by decide) ?_
          refine lv_goto (tgt := 30) hx hb dX10_tryGiven_26 (by decide) ?_
          exact hB30 σ l1 l2 l3 l1 (1 : Int32) _ _ _ hF hP hD hS (lv_sub hl [0, 1, 2, 3] rfl)
  unfold FX10_tryGiven at hF
  refine lv_iconst (v := (0 : Int32)) hx hb dX10_tryGiven_0 (by decide) ?_
  refine lv_istore_n (lv' := [(1, .int (0 : Int32)), (0, .ref (ad 0))]) hx hb dX10_tryGiven_1 rfl hl (by decide) rfl (fun ls hl => ?_)
  refine lv_iconst (v := (0 : Int32)) hx hb dX10_tryGiven_2 (by decide) ?_
  refine lv_istore_n (lv' := [(2, .int (0 : Int32)), (1, .int (0 : Int32)), (0, .ref (ad 0))]) hx hb dX10_tryGiven_3 rfl hl (by decide) rfl (fun ls hl => ?_)
  refine lv_iconst (v := (0 : Int32)) hx hb dX10_tryGiven_4 (by decide) ?_
  refine lv_istore_n (lv' := [(3, .int (0 : Int32)), (2, .int (0 : Int32)), (1, .int (0 : Int32)), (0, .ref (ad 0))]) hx hb dX10_tryGiven_5 rfl hl (by decide) rfl (fun ls hl => ?_)
  exact hB6 n σ (0 : Int32) (0 : Int32) (0 : Int32) _ _ _ hF hP hD hS (lv_sub hl [3, 2, 1, 0] rfl)
