/-! ===== contracts: X5_take, X5_allSo, J7_fill_53178, X6_begin, X6_cut, X6_faultAs, X6_holds, X7_isDigit, X7_kindOf, X7_mayStand, X7_firstFault, X7_read, X8_isLearner, X8_tells, X8_pairRefusal ===== -/
theorem kX5_take_f21 : Cond.fieldLink RX5 21 "LeastAsked$Readings" "count" "I" ∈ wsX5_take := by decide +kernel
theorem kX5_take_f9 : Cond.fieldLink RX5 9 "LeastAsked$Readings" "persons" "[I" ∈ wsX5_take := by decide +kernel
theorem kX5_take_f15 : Cond.fieldLink RX5 15 "LeastAsked$Readings" "matters" "[I" ∈ wsX5_take := by decide +kernel
theorem kX5_take_f18 : Cond.fieldLink RX5 18 "LeastAsked$Readings" "values" "[I" ∈ wsX5_take := by decide +kernel
theorem iX5_take_X5 : ∀ w ∈ u_ws RX5 TX5 4, w ∈ wsX5_take := fun _ h => List.mem_cons_of_mem _ (List.mem_append_right _ h)
set_option maxHeartbeats 4000000 in
set_option maxRecDepth 100000 in
theorem CX5_take (l : Launch) (D : va_G) (cI cS cP : ClassId) (ad : Nat → Nat) (A : Nat → Prop) (n : Nat) (σ σ' : zMem) (r0 : Int32) (o : Nat) (p1 : Int32) (p2 : Int32) (p3 : Int32) (ho : zk o = 5) (hF : FX5_take n o σ p1 p2 p3 = some (r0, σ')) : Met l yX5_take wsX5_take ({ frames := 0, cells := 0, slots := 0, locals := 0 } : Room) (va_Pc [.ref (ad o), .int p1, .int p2, .int p3] (zB (zx cI cS cP ad) 41 ad D (zty cI cS cP) A σ)) (va_Qi (fun r u => r = r0 ∧ u = σ') (zB (zx cI cS cP ad) 41 ad D (zty cI cS cP) A) A) 0 0 A := by
  refine Met.ofW (cc := cX5_take) (maxL := 5) (ret := (some .int)) (by decide) rfl ?_
  intro p e s m args below meth c s₁ B hml hv
  obtain ⟨rfl, hP, hK, hD, hN⟩ := hv
  have hx := B.exec
  have hb := B.bytes
  have hr := B.returns
  have hts := atoms_spec (ws := wsX5_take) B.pre
  have hown : s.vm.findClass RX5 = some m.cls := findClass_of_methodNamed B.named
  have hlocks := B.notSynchronized
  have hS : va_S A s.heap s.heap [] := va_S.rf
  have hl := lv_entry ([.ref (ad o), .int p1, .int p2, .int p3]) (n := 5) (Nat.le_of_ble_eq_true rfl)
  rw [lg_entry_eq]
  generalize (lg_sl ([.ref (ad o), .int p1, .int p2, .int p3]) ++ List.replicate (5 - (lg_sl ([.ref (ad o), .int p1, .int p2, .int p3])).length) Slot.unset).toArray = ls at hl ⊢
  have hl : lv_has ls 5 [(0, .ref (ad o)), (1, .int p1), (2, .int p2), (3, .int p3)] := hl
  clear B
  unfold FX5_take at hF
  refine lv_aload_n hx hb dX5_take_0 rfl (lv_at hl 0 rfl) ?_
  refine z_get (ci := 5) (C := RX5) (T := TX5) (N := 4) hx hb hts iX5_take_X5 hown hK hP (zk_lt ho (by decide)) (zx_5 ho) rfl 3 (by decide) kX5_take_f21 rfl (v := .int (σ o 3)) rfl dX5_take_1 ?_
  refine lv_istore (lv' := [(4, .int (σ o 3)), (0, .ref (ad o)), (1, .int p1), (2, .int p2), (3, .int p3)]) hx hb dX5_take_4 hl (by decide) rfl (fun ls hl => ?_)
  refine lv_aload_n hx hb dX5_take_6 rfl (lv_at hl 1 rfl) ?_
  refine z_get (ci := 5) (C := RX5) (T := TX5) (N := 4) hx hb hts iX5_take_X5 hown hK hP (zk_lt ho (by decide)) (zx_5 ho) rfl 0 (by decide) kX5_take_f9 rfl (v := .ref (ad (o + 1))) rfl dX5_take_7 ?_
  refine lv_iload hx hb dX5_take_10 (lv_at hl 0 rfl) ?_
  refine lv_iload_n hx hb dX5_take_12 rfl (lv_at hl 2 rfl) ?_
  obtain ⟨g1, hF⟩ := zgd_inv hF
  obtain ⟨σ2, eσ2, hF⟩ := zlet_inv hF
  refine z_iast hx hb hK hP hD hS (zk_lt (zk_5a ho) (by decide)) (fun _ => (zx_108 (zk_5a ho))) rfl g1 dX5_take_13 (fun H locs hP hD hS => ?_)
  have hP : va_P D vwCl (zW (zx cI cS cP ad) 41 ad σ2) H := by rw [eσ2]; exact hP
  have hD : va_D A (zW (zx cI cS cP ad) 41 ad σ2) := by rw [eσ2]; exact hD
  refine lv_aload_n hx hb dX5_take_14 rfl (lv_at hl 1 rfl) ?_
  refine z_get (ci := 5) (C := RX5) (T := TX5) (N := 4) hx hb hts iX5_take_X5 hown hK hP (zk_lt ho (by decide)) (zx_5 ho) rfl 1 (by decide) kX5_take_f15 rfl (v := .ref (ad (o + 2))) rfl dX5_take_15 ?_
  refine lv_iload hx hb dX5_take_18 (lv_at hl 0 rfl) ?_
  refine lv_iload_n hx hb dX5_take_20 rfl (lv_at hl 3 rfl) ?_
  obtain ⟨g3, hF⟩ := zgd_inv hF
  obtain ⟨σ4, eσ4, hF⟩ := zlet_inv hF
  refine z_iast hx hb hK hP hD hS (zk_lt (zk_5b ho) (by decide)) (fun _ => (zx_108 (zk_5b ho))) rfl g3 dX5_take_21 (fun H locs hP hD hS => ?_)
  have hP : va_P D vwCl (zW (zx cI cS cP ad) 41 ad σ4) H := by rw [eσ4]; exact hP
  have hD : va_D A (zW (zx cI cS cP ad) 41 ad σ4) := by rw [eσ4]; exact hD
  refine lv_aload_n hx hb dX5_take_22 rfl (lv_at hl 1 rfl) ?_
  refine z_get (ci := 5) (C := RX5) (T := TX5) (N := 4) hx hb hts iX5_take_X5 hown hK hP (zk_lt ho (by decide)) (zx_5 ho) rfl 2 (by decide) kX5_take_f18 rfl (v := .ref (ad (o + 3))) rfl dX5_take_23 ?_
  refine lv_iload hx hb dX5_take_26 (lv_at hl 0 rfl) ?_
  refine lv_iload_n hx hb dX5_take_28 rfl (lv_at hl 4 rfl) ?_
  obtain ⟨g5, hF⟩ := zgd_inv hF
  obtain ⟨σ6, eσ6, hF⟩ := zlet_inv hF
  refine z_iast hx hb hK hP hD hS (zk_lt (zk_5c ho) (by decide)) (fun _ => (zx_108 (zk_5c ho))) rfl g5 dX5_take_29 (fun H locs hP hD hS => ?_)
  have hP : va_P D vwCl (zW (zx cI cS cP ad) 41 ad σ6) H := by rw [eσ6]; exact hP
  have hD : va_D A (zW (zx cI cS cP ad) 41 ad σ6) := by rw [eσ6]; exact hD
  refine lv_aload_n hx hb dX5_take_30 rfl (lv_at hl 1 rfl) ?_
  refine lv_dup hx hb dX5_take_31 rfl ?_
  refine z_get (ci := 5) (C := RX5) (T := TX5) (N := 4) hx hb hts iX5_take_X5 hown hK hP (zk_lt ho (by decide)) (zx_5 ho) rfl 3 (by decide) kX5_take_f21 rfl (v := .int (σ6 o 3)) rfl dX5_take_32 ?_
  refine lv_iconst (v := (1 : Int32)) hx hb dX5_take_35 (by decide) ?_
  refine lv_iadd hx hb dX5_take_36 ?_
  obtain ⟨σ7, eσ7, hF⟩ := zlet_inv hF
  refine z_put (ci := 5) (C := RX5) (T := TX5) (N := 4) hx hb hts iX5_take_X5 tyX5 tyX5_ok nmX5 hown hK hP hD hS (zk_lt ho (by decide)) (zx_5 ho) rfl 3 (by decide) kX5_take_f21 rfl rfl rfl rfl (Nat.le_of_ble_eq_true rfl) (zx_5 ho) dX5_take_37 (fun H locs hP hD hS => ?_)
  have hP : va_P D vwCl (zW (zx cI cS cP ad) 41 ad σ7) H := by rw [eσ7]; exact hP
  have hD : va_D A (zW (zx cI cS cP ad) 41 ad σ7) := by rw [eσ7]; exact hD
  refine lv_iload hx hb dX5_take_40 (lv_at hl 0 rfl) ?_
  exact z_iret hx hb hr hlocks hN hK hP hD hS hF dX5_take_42
theorem kX5_allSo_f21 : Cond.fieldLink RX5 21 "LeastAsked$Readings" "count" "I" ∈ wsX5_allSo := by decide +kernel
theorem kX5_allSo_f9 : Cond.fieldLink RX5 9 "LeastAsked$Readings" "persons" "[I" ∈ wsX5_allSo := by decide +kernel
theorem kX5_allSo_f15 : Cond.fieldLink RX5 15 "LeastAsked$Readings" "matters" "[I" ∈ wsX5_allSo := by decide +kernel
theorem kX5_allSo_f18 : Cond.fieldLink RX5 18 "LeastAsked$Readings" "values" "[I" ∈ wsX5_allSo := by decide +kernel
theorem iX5_allSo_X5 : ∀ w ∈ u_ws RX5 TX5 4, w ∈ wsX5_allSo := fun _ h => List.mem_cons_of_mem _ (List.mem_append_left _ (List.mem_append_left _ (List.mem_append_right _ h)))
set_option maxHeartbeats 4000000 in
set_option maxRecDepth 100000 in
theorem CX5_allSo (l : Launch) (D : va_G) (cI cS cP : ClassId) (ad : Nat → Nat) (A : Nat → Prop) (n : Nat) (σ σ' : zMem) (r0 : Int32) (o : Nat) (q1 : Nat) (ho : zk o = 5) (hq1 : zk q1 = 4) (hF : FX5_allSo n o q1 σ = some (r0, σ')) : Met l yX5_allSo wsX5_allSo ({ frames := 2, cells := 0, slots := 0, locals := 44 } : Room) (va_Pc [.ref (ad o), .ref (ad q1)] (zB (zx cI cS cP ad) 41 ad D (zty cI cS cP) A σ)) (va_Qi (fun r u => r = r0 ∧ u = σ') (zB (zx cI cS cP ad) 41 ad D (zty cI cS cP) A) A) 0 0 A := by
  refine Met.ofW (cc := cX5_allSo) (maxL := 3) (ret := (some .boolean)) (by decide) rfl ?_
  intro p e s m args below meth c s₁ B hml hv
  obtain ⟨rfl, hP, hK, hD, hN⟩ := hv
  have hx := B.exec
  have hb := B.bytes
  have hr := B.returns
  have hts := atoms_spec (ws := wsX5_allSo) B.pre
  have hown : s.vm.findClass RX5 = some m.cls := findClass_of_methodNamed B.named
  have hlocks := B.notSynchronized
  have hS : va_S A s.heap s.heap [] := va_S.rf
  have hl := lv_entry ([.ref (ad o), .ref (ad q1)]) (n := 3) (Nat.le_of_ble_eq_true rfl)
  rw [lg_entry_eq]
  generalize (lg_sl ([.ref (ad o), .ref (ad q1)]) ++ List.replicate (3 - (lg_sl ([.ref (ad o), .ref (ad q1)])).length) Slot.unset).toArray = ls at hl ⊢
  have hl : lv_has ls 3 [(0, .ref (ad o)), (1, .ref (ad q1))] := hl
  clear B
  have hB2 : ∀ (f2 : Nat) (σ : zMem) (l2 : Int32), ∀ (H : Heap) (locs : List Loc) (ls : Array Slot), zlp (LX5_allSo_2 n o q1) f2 (σ, l2) = some (r0, σ') → va_P D vwCl (zW (zx cI cS cP ad) 41 ad σ) H → va_D A (zW (zx cI cS cP ad) 41 ad σ) → va_S A s.heap H locs → lv_has ls 3 [(0, .ref (ad o)), (1, .ref (ad q1)), (2, .int l2)] → W p l e (headSpec wsX5_allSo ({ frames := 2, cells := 0, slots := 0, locals := 44 } : Room)).room s m ([.ref (ad o), .ref (ad q1)] : List Value).toArray below meth c H locs 0 0 (MQ below (va_Qi (fun r u => r = r0 ∧ u = σ') (zB (zx cI cS cP ad) 41 ad D (zty cI cS cP) A) A) ([.ref (ad o), .ref (ad q1)] : List Value).toArray s 0 0 A) (F0 m 2 ls []) := by
    intro f2
    induction f2 with
    | zero => intro σ l2 H locs ls hF hP hD hS hl; exact (zlp_0 hF).elim
    | succ f2 ih2 =>
      intro σ l2 H locs ls hF hP hD hS hl
      have hF : LBX5_allSo_2 n o q1  (zlp (LX5_allSo_2 n o q1) f2) σ l2 = some (r0, σ') := hF
      unfold LBX5_allSo_2 at hF
      refine lv_iload_n hx hb dX5_allSo_2 rfl (lv_at hl 2 rfl) ?_
      refine lv_aload_n hx hb dX5_allSo_3 rfl (lv_at hl 0 rfl) ?_
      refine z_get (ci := 5) (C := RX5) (T := TX5) (N := 4) hx hb hts iX5_allSo_X5 hown hK hP (zk_lt ho (by decide)) (zx_5 ho) rfl 3 (by decide) kX5_allSo_f21 rfl (v := .int (σ o 3)) rfl dX5_allSo_4 ?_
      refine lv_icmp_ge (tgt := 43) hx hb dX5_allSo_7 (by decide) (fun b1 => ?_) (fun b1 => ?_)
      · have hF := zif_t b1 hF
        refine lv_iconst (v := (1 : Int32)) hx hb dX5_allSo_43 (by decide) ?_
        exact z_zret hx hb hr hlocks (Or.inr rfl) hN hK hP hD hS hF dX5_allSo_44
      · have hF := zif_f b1 hF
        refine lv_aload_n hx hb dX5_allSo_10 rfl (lv_at hl 1 rfl) ?_
        refine lv_aload_n hx hb dX5_allSo_11 rfl (lv_at hl 0 rfl) ?_
        refine z_get (ci := 5) (C := RX5) (T := TX5) (N := 4) hx hb hts iX5_allSo_X5 hown hK hP (zk_lt ho (by decide)) (zx_5 ho) rfl 0 (by decide) kX5_allSo_f9 rfl (v := .ref (ad (o + 1))) rfl dX5_allSo_12 ?_
        refine lv_iload_n hx hb dX5_allSo_15 rfl (lv_at hl 2 rfl) ?_
        obtain ⟨g2, hF⟩ := zgd_inv hF
        refine z_iald hx hb hK hP (zk_lt (zk_5a ho) (by decide)) (zx_108 (zk_5a ho)) rfl g2 dX5_allSo_16 ?_
        refine lv_aload_n hx hb dX5_allSo_17 rfl (lv_at hl 0 rfl) ?_
        refine z_get (ci := 5) (C := RX5) (T := TX5) (N := 4) hx hb hts iX5_allSo_X5 hown hK hP (zk_lt ho (by decide)) (zx_5 ho) rfl 1 (by decide) kX5_allSo_f15 rfl (v := .ref (ad (o + 2))) rfl dX5_allSo_18 ?_
        refine lv_iload_n hx hb dX5_allSo_21 rfl (lv_at hl 2 rfl) ?_
        obtain ⟨g3, hF⟩ := zgd_inv hF
        refine z_iald hx hb hK hP (zk_lt (zk_5b ho) (by decide)) (zx_108 (zk_5b ho)) rfl g3 dX5_allSo_22 ?_
        obtain ⟨r5, σ4, hC6, hF⟩ := zbd_inv hF
        refine z_calli (va_runV (As := [.int (σ (o + 1) (l2 : Int32).toNatClampNeg), .int (σ (o + 2) (l2 : Int32).toNatClampNeg)]) (rest := []) ⟨hx, hb, hml, hown, hts⟩ (CX4_bringing l D cI cS cP ad A n σ σ4 r5 q1 (σ (o + 1) (l2 : Int32).toNatClampNeg) (σ (o + 2) (l2 : Int32).toNatClampNeg) hq1 hC6) (cwV 2 hts gX5_allSo_X4_bringing rfl rfl rfl (by decide +kernel) ⟨Nat.le_of_ble_eq_true rfl, Nat.le_of_ble_eq_true rfl⟩) (z_preV hN hK hP hD (zk_lt hq1 (by decide)) (zx_4 hq1) rfl) rfl rfl hl.1 rfl (lv_room (Nat.le_of_ble_eq_true rfl)) dX5_allSo_23 ⟨Nat.zero_le _, Nat.zero_le _⟩) hS (fun H locs hP hD hS => ?_)
        refine lv_aload_n hx hb dX5_allSo_26 rfl (lv_at hl 0 rfl) ?_
        refine z_get (ci := 5) (C := RX5) (T := TX5) (N := 4) hx hb hts iX5_allSo_X5 hown hK hP (zk_lt ho (by decide)) (zx_5 ho) rfl 2 (by decide) kX5_allSo_f18 rfl (v := .ref (ad (o + 3))) rfl dX5_allSo_27 ?_
        refine lv_iload_n hx hb dX5_allSo_30 rfl (lv_at hl 2 rfl) ?_
        obtain ⟨g7, hF⟩ := zgd_inv hF
        refine z_iald hx hb hK hP (zk_lt (zk_5c ho) (by decide)) (zx_108 (zk_5c ho)) rfl g7 dX5_allSo_31 ?_
        refine lv_icmp_eq (tgt := 37) hx hb dX5_allSo_32 (by decide) (fun b8 => ?_) (fun b8 => ?_)
        · have hF := zif_t b8 hF
          refine lv_iinc (v := (l2 + (1 : Int32))) (lv' := [(2, .int (l2 + (1 : Int32))), (0, .ref (ad o)), (1, .ref (ad q1))]) hx hb dX5_allSo_37 hl (k := 2) rfl rfl (by decide) rfl (fun ls hl => ?_)
          refine lv_goto (tgt := 2) hx hb dX5_allSo_40 (by decide) ?_
          exact ih2 σ4 (l2 + (1 : Int32)) _ _ _ hF hP hD hS (lv_sub hl [1, 2, 0] rfl)
        · have hF := zif_f b8 hF
          refine lv_iconst (v := (0 : Int32)) hx hb dX5_allSo_35 (by decide) ?_
          exact z_zret hx hb hr hlocks (Or.inl rfl) hN hK hP hD hS hF dX5_allSo_36
  unfold FX5_allSo at hF
  refine lv_iconst (v := (0 : Int32)) hx hb dX5_allSo_0 (by decide) ?_
  refine lv_istore_n (lv' := [(2, .int (0 : Int32)), (0, .ref (ad o)), (1, .ref (ad q1))]) hx hb dX5_allSo_1 rfl hl (by decide) rfl (fun ls hl => ?_)
  exact hB2 n σ (0 : Int32) _ _ _ hF hP hD hS (lv_sub hl [1, 2, 0] rfl)
set_option maxHeartbeats 4000000 in
set_option maxRecDepth 100000 in
theorem CJ7_fill_53178 (l : Launch) (D : va_G) (cI cS cP : ClassId) (ad : Nat → Nat) (A : Nat → Prop) (n : Nat) (σ σ' : zMem) (r0 : Int32) (q1 : Nat) (p2 : Int32) (hq1 : zk q1 = 160) (hF : FJ7_fill_53178 n q1 σ p2 = some (r0, σ')) : Met l yJ7_fill_53178 wsJ7_fill_53178 ({ frames := 0, cells := 0, slots := 0, locals := 0 } : Room) (va_Pc [.ref (ad q1), .int p2] (zB (zx cI cS cP ad) 41 ad D (zty cI cS cP) A σ)) (va_Qv (fun u => u = σ') (zB (zx cI cS cP ad) 41 ad D (zty cI cS cP) A) A) 0 0 A := by
  refine Met.ofW (cc := cJ7_fill_53178) (maxL := 4) (ret := none) (by decide) rfl ?_
  intro p e s m args below meth c s₁ B hml hv
  obtain ⟨rfl, hP, hK, hD, hN⟩ := hv
  have hx := B.exec
  have hb := B.bytes
  have hr := B.returns
  have hts := atoms_spec (ws := wsJ7_fill_53178) B.pre
  have hown : s.vm.findClass RJ7 = some m.cls := findClass_of_methodNamed B.named
  have hlocks := B.notSynchronized
  have hS : va_S A s.heap s.heap [] := va_S.rf
  have hl := lv_entry ([.ref (ad q1), .int p2]) (n := 4) (Nat.le_of_ble_eq_true rfl)
  rw [lg_entry_eq]
  generalize (lg_sl ([.ref (ad q1), .int p2]) ++ List.replicate (4 - (lg_sl ([.ref (ad q1), .int p2])).length) Slot.unset).toArray = ls at hl ⊢
  have hl : lv_has ls 4 [(0, .ref (ad q1)), (1, .int p2)] := hl
  clear B
  have hB5 : ∀ (f5 : Nat) (σ : zMem) (l1 : Int32) (l2 : Int32) (l3 : Int32), ∀ (H : Heap) (locs : List Loc) (ls : Array Slot), zlp (LJ7_fill_53178_5 n q1) f5 (σ, l1, l2, l3) = some (r0, σ') → va_P D vwCl (zW (zx cI cS cP ad) 41 ad σ) H → va_D A (zW (zx cI cS cP ad) 41 ad σ) → va_S A s.heap H locs → lv_has ls 4 [(0, .ref (ad q1)), (1, .int l1), (2, .int l2), (3, .int l3)] → W p l e (headSpec wsJ7_fill_53178 ({ frames := 0, cells := 0, slots := 0, locals := 0 } : Room)).room s m ([.ref (ad q1), .int p2] : List Value).toArray below meth c H locs 0 0 (MQ below (va_Qv (fun u => u = σ') (zB (zx cI cS cP ad) 41 ad D (zty cI cS cP) A) A) ([.ref (ad q1), .int p2] : List Value).toArray s 0 0 A) (F0 m 5 ls []) := by
    intro f5
    induction f5 with
    | zero => intro σ l1 l2 l3 H locs ls hF hP hD hS hl; exact (zlp_0 hF).elim
    | succ f5 ih5 =>
      intro σ l1 l2 l3 H locs ls hF hP hD hS hl
      have hF : LBJ7_fill_53178_5 n q1  (zlp (LJ7_fill_53178_5 n q1) f5) σ l1 l2 l3 = some (r0, σ') := hF
      unfold LBJ7_fill_53178_5 at hF
      refine lv_iload_n hx hb dJ7_fill_53178_5 rfl (lv_at hl 2 rfl) ?_
      refine lv_iload_n hx hb dJ7_fill_53178_6 rfl (lv_at hl 3 rfl) ?_
      refine lv_icmp_ge (tgt := 20) hx hb dJ7_fill_53178_7 (by decide) (fun b1 => ?_) (fun b1 => ?_)
      · have hF := zif_t b1 hF
        exact z_vret hx hb hr hlocks hN hK hP hD hS hF dJ7_fill_53178_20
      · have hF := zif_f b1 hF
        refine lv_aload_n hx hb dJ7_fill_53178_10 rfl (lv_at hl 0 rfl) ?_
        refine lv_iload_n hx hb dJ7_fill_53178_11 rfl (lv_at hl 2 rfl) ?_
        refine lv_iload_n hx hb dJ7_fill_53178_12 rfl (lv_at hl 1 rfl) ?_
        obtain ⟨g2, hF⟩ := zgd_inv hF
        obtain ⟨σ3, eσ3, hF⟩ := zlet_inv hF
        refine z_iast hx hb hK hP hD hS (zk_lt hq1 (by decide)) (fun _ => (zx_160 hq1)) rfl g2 dJ7_fill_53178_13 (fun H locs hP hD hS => ?_)
        have hP : va_P D vwCl (zW (zx cI cS cP ad) 41 ad σ3) H := by rw [eσ3]; exact hP
        have hD : va_D A (zW (zx cI cS cP ad) 41 ad σ3) := by rw [eσ3]; exact hD
        refine lv_iinc (v := (l2 + (1 : Int32))) (lv' := [(2, .int (l2 + (1 : Int32))), (0, .ref (ad q1)), (1, .int l1), (3, .int l3)]) hx hb dJ7_fill_53178_14 hl (k := 2) rfl rfl (by decide) rfl (fun ls hl => ?_)
        refine lv_goto (tgt := 5) hx hb dJ7_fill_53178_17 (by decide) ?_
        exact ih5 σ3 l1 (l2 + (1 : Int32)) l3 _ _ _ hF hP hD hS (lv_sub hl [1, 2, 0, 3] rfl)
  unfold FJ7_fill_53178 at hF
  refine lv_iconst (v := (0 : Int32)) hx hb dJ7_fill_53178_0 (by decide) ?_
  refine lv_istore_n (lv' := [(2, .int (0 : Int32)), (0, .ref (ad q1)), (1, .int p2)]) hx hb dJ7_fill_53178_1 rfl hl (by decide) rfl (fun ls hl => ?_)
  refine lv_aload_n hx hb dJ7_fill_53178_2 rfl (lv_at hl 1 rfl) ?_
  refine z_alen (v := 60) hx hb hK hP (zk_lt hq1 (by decide)) (zx_160 hq1) rfl rfl dJ7_fill_53178_3 ?_
  refine lv_istore_n (lv' := [(3, .int (60 : Int32)), (2, .int (0 : Int32)), (0, .ref (ad q1)), (1, .int p2)]) hx hb dJ7_fill_53178_4 rfl hl (by decide) rfl (fun ls hl => ?_)
  exact hB5 n σ p2 (0 : Int32) (60 : Int32) _ _ _ hF hP hD hS (lv_sub hl [2, 3, 1, 0] rfl)
theorem kX6_begin_f9 : Cond.fieldLink RX6 9 "LeastAsked$Sheet" "cells" "[I" ∈ wsX6_begin := by decide +kernel
theorem kX6_begin_f15 : Cond.fieldLink RX6 15 "LeastAsked$Sheet" "filled" "Z" ∈ wsX6_begin := by decide +kernel
theorem kX6_begin_f19 : Cond.fieldLink RX6 19 "LeastAsked$Sheet" "lane" "I" ∈ wsX6_begin := by decide +kernel
theorem kX6_begin_f23 : Cond.fieldLink RX6 23 "LeastAsked$Sheet" "length" "I" ∈ wsX6_begin := by decide +kernel
theorem iX6_begin_X6 : ∀ w ∈ u_ws RX6 TX6 4, w ∈ wsX6_begin := fun _ h => List.mem_cons_of_mem _ (List.mem_append_right _ h)
set_option maxHeartbeats 4000000 in
set_option maxRecDepth 100000 in
theorem CX6_begin (l : Launch) (D : va_G) (cI cS cP : ClassId) (ad : Nat → Nat) (A : Nat → Prop) (n : Nat) (σ σ' : zMem) (r0 : Int32) (o : Nat) (p1 : Int32) (p2 : Int32) (ho : zk o = 6) (hF : FX6_begin n o σ p1 p2 = some (r0, σ')) : Met l yX6_begin wsX6_begin ({ frames := 1, cells := 0, slots := 0, locals := 23 } : Room) (va_Pc [.ref (ad o), .int p1, .int p2] (zB (zx cI cS cP ad) 41 ad D (zty cI cS cP) A σ)) (va_Qv (fun u => u = σ') (zB (zx cI cS cP ad) 41 ad D (zty cI cS cP) A) A) 0 0 A := by
  refine Met.ofW (cc := cX6_begin) (maxL := 3) (ret := none) (by decide) rfl ?_
  intro p e s m args below meth c s₁ B hml hv
  obtain ⟨rfl, hP, hK, hD, hN⟩ := hv
  have hx := B.exec
  have hb := B.bytes
  have hr := B.returns
  have hts := atoms_spec (ws := wsX6_begin) B.pre
  have hown : s.vm.findClass RX6 = some m.cls := findClass_of_methodNamed B.named
  have hlocks := B.notSynchronized
  have hS : va_S A s.heap s.heap [] := va_S.rf
  have hl := lv_entry ([.ref (ad o), .int p1, .int p2]) (n := 3) (Nat.le_of_ble_eq_true rfl)
  rw [lg_entry_eq]
  generalize (lg_sl ([.ref (ad o), .int p1, .int p2]) ++ List.replicate (3 - (lg_sl ([.ref (ad o), .int p1, .int p2])).length) Slot.unset).toArray = ls at hl ⊢
  have hl : lv_has ls 3 [(0, .ref (ad o)), (1, .int p1), (2, .int p2)] := hl
  clear B
  unfold FX6_begin at hF
  refine lv_aload_n hx hb dX6_begin_0 rfl (lv_at hl 0 rfl) ?_
  refine z_get (ci := 6) (C := RX6) (T := TX6) (N := 4) hx hb hts iX6_begin_X6 hown hK hP (zk_lt ho (by decide)) (zx_6 ho) rfl 0 (by decide) kX6_begin_f9 rfl (v := .ref (ad (o + 4))) rfl dX6_begin_1 ?_
  refine lv_iconst (v := (0 : Int32)) hx hb dX6_begin_4 (by decide) ?_
  obtain ⟨r2, σ1, hC3, hF⟩ := zbd_inv hF
  refine z_callv (va_runS (As := [.ref (ad (o + 4)), .int (0 : Int32)]) (rest := []) ⟨hx, hb, hml, hown, hts⟩ (CJ7_fill_53178 l D cI cS cP ad A n σ σ1 r2 (o + 4) (0 : Int32) (zk_6c ho) hC3) (va_cwS 2 hts gX6_begin_J7_fill_53178 rfl rfl rfl (by decide +kernel) ⟨Nat.le_of_ble_eq_true rfl, Nat.le_of_ble_eq_true rfl⟩) (z_preS hN hK hP hD) rfl rfl hl.1 rfl (lv_room (Nat.le_of_ble_eq_true rfl)) dX6_begin_5 ⟨Nat.zero_le _, Nat.zero_le _⟩) hS (fun H locs hP hD hS => ?_)
  refine lv_aload_n hx hb dX6_begin_8 rfl (lv_at hl 0 rfl) ?_
  refine lv_iconst (v := (1 : Int32)) hx hb dX6_begin_9 (by decide) ?_
  obtain ⟨σ4, eσ4, hF⟩ := zlet_inv hF
  refine z_put (ci := 6) (C := RX6) (T := TX6) (N := 4) hx hb hts iX6_begin_X6 tyX6 tyX6_ok nmX6 hown hK hP hD hS (zk_lt ho (by decide)) (zx_6 ho) rfl 1 (by decide) kX6_begin_f15 rfl rfl rfl rfl (Nat.le_of_ble_eq_true rfl) (zx_6 ho) dX6_begin_10 (fun H locs hP hD hS => ?_)
  have hP : va_P D vwCl (zW (zx cI cS cP ad) 41 ad σ4) H := by rw [eσ4]; exact hP
  have hD : va_D A (zW (zx cI cS cP ad) 41 ad σ4) := by rw [eσ4]; exact hD
  refine lv_aload_n hx hb dX6_begin_13 rfl (lv_at hl 0 rfl) ?_
  refine lv_iload_n hx hb dX6_begin_14 rfl (lv_at hl 1 rfl) ?_
  obtain ⟨σ5, eσ5, hF⟩ := zlet_inv hF
  refine z_put (ci := 6) (C := RX6) (T := TX6) (N := 4) hx hb hts iX6_begin_X6 tyX6 tyX6_ok nmX6 hown hK hP hD hS (zk_lt ho (by decide)) (zx_6 ho) rfl 2 (by decide) kX6_begin_f19 rfl rfl rfl rfl (Nat.le_of_ble_eq_true rfl) (zx_6 ho) dX6_begin_15 (fun H locs hP hD hS => ?_)
  have hP : va_P D vwCl (zW (zx cI cS cP ad) 41 ad σ5) H := by rw [eσ5]; exact hP
  have hD : va_D A (zW (zx cI cS cP ad) 41 ad σ5) := by rw [eσ5]; exact hD
  refine lv_aload_n hx hb dX6_begin_18 rfl (lv_at hl 0 rfl) ?_
  refine lv_iload_n hx hb dX6_begin_19 rfl (lv_at hl 2 rfl) ?_
  obtain ⟨σ6, eσ6, hF⟩ := zlet_inv hF
  refine z_put (ci := 6) (C := RX6) (T := TX6) (N := 4) hx hb hts iX6_begin_X6 tyX6 tyX6_ok nmX6 hown hK hP hD hS (zk_lt ho (by decide)) (zx_6 ho) rfl 3 (by decide) kX6_begin_f23 rfl rfl rfl rfl (Nat.le_of_ble_eq_true rfl) (zx_6 ho) dX6_begin_20 (fun H locs hP hD hS => ?_)
  have hP : va_P D vwCl (zW (zx cI cS cP ad) 41 ad σ6) H := by rw [eσ6]; exact hP
  have hD : va_D A (zW (zx cI cS cP ad) 41 ad σ6) := by rw [eσ6]; exact hD
  exact z_vret hx hb hr hlocks hN hK hP hD hS hF dX6_begin_23
theorem kX6_cut_f19 : Cond.fieldLink RX6 19 "LeastAsked$Sheet" "lane" "I" ∈ wsX6_cut := by decide +kernel
theorem iX6_cut_X6 : ∀ w ∈ u_ws RX6 TX6 4, w ∈ wsX6_cut := fun _ h => List.mem_cons_of_mem _ (List.mem_append_right _ h)
set_option maxHeartbeats 4000000 in
set_option maxRecDepth 100000 in
theorem CX6_cut (l : Launch) (D : va_G) (cI cS cP : ClassId) (ad : Nat → Nat) (A : Nat → Prop) (n : Nat) (σ σ' : zMem) (r0 : Int32) (o : Nat) (p1 : Int32) (ho : zk o = 6) (hF : FX6_cut n o σ p1 = some (r0, σ')) : Met l yX6_cut wsX6_cut ({ frames := 0, cells := 0, slots := 0, locals := 0 } : Room) (va_Pc [.ref (ad o), .int p1] (zB (zx cI cS cP ad) 41 ad D (zty cI cS cP) A σ)) (va_Qi (fun r u => r = r0 ∧ u = σ') (zB (zx cI cS cP ad) 41 ad D (zty cI cS cP) A) A) 0 0 A := by
  refine Met.ofW (cc := cX6_cut) (maxL := 2) (ret := (some .int)) (by decide) rfl ?_
  intro p e s m args below meth c s₁ B hml hv
  obtain ⟨rfl, hP, hK, hD, hN⟩ := hv
  have hx := B.exec
  have hb := B.bytes
  have hr := B.returns
  have hts := atoms_spec (ws := wsX6_cut) B.pre
  have hown : s.vm.findClass RX6 = some m.cls := findClass_of_methodNamed B.named
  have hlocks := B.notSynchronized
  have hS : va_S A s.heap s.heap [] := va_S.rf
  have hl := lv_entry ([.ref (ad o), .int p1]) (n := 2) (Nat.le_of_ble_eq_true rfl)
  rw [lg_entry_eq]
  generalize (lg_sl ([.ref (ad o), .int p1]) ++ List.replicate (2 - (lg_sl ([.ref (ad o), .int p1])).length) Slot.unset).toArray = ls at hl ⊢
  have hl : lv_has ls 2 [(0, .ref (ad o)), (1, .int p1)] := hl
  clear B
  unfold FX6_cut at hF
  refine lv_aload_n hx hb dX6_cut_0 rfl (lv_at hl 0 rfl) ?_
  refine z_get (ci := 6) (C := RX6) (T := TX6) (N := 4) hx hb hts iX6_cut_X6 hown hK hP (zk_lt ho (by decide)) (zx_6 ho) rfl 2 (by decide) kX6_cut_f19 rfl (v := .int (σ o 2)) rfl dX6_cut_1 ?_
  refine lv_if_ne (tgt := 10) hx hb dX6_cut_4 (by decide) (fun b1 => ?_) (fun b1 => ?_)
  · have hF := zif_f b1 hF
    refine lv_aload_n hx hb dX6_cut_10 rfl (lv_at hl 0 rfl) ?_
    refine z_get (ci := 6) (C := RX6) (T := TX6) (N := 4) hx hb hts iX6_cut_X6 hown hK hP (zk_lt ho (by decide)) (zx_6 ho) rfl 2 (by decide) kX6_cut_f19 rfl (v := .int (σ o 2)) rfl dX6_cut_11 ?_
    refine lv_iconst (v := (1 : Int32)) hx hb dX6_cut_14 (by decide) ?_
    refine lv_icmp_ne (tgt := 23) hx hb dX6_cut_15 (by decide) (fun b2 => ?_) (fun b2 => ?_)
    · have hF := zif_f b2 hF
      refine lv_iload_n hx hb dX6_cut_23 rfl (lv_at hl 1 rfl) ?_
      exact z_iret hx hb hr hlocks hN hK hP hD hS hF dX6_cut_24
    · have hF := zif_t b2 hF
      refine lv_iload_n hx hb dX6_cut_18 rfl (lv_at hl 1 rfl) ?_
      refine lv_i2s (v := (p1 : Int32).toInt16.toInt32) hx hb dX6_cut_19 rfl ?_
      refine lv_goto (tgt := 24) hx hb dX6_cut_20 (by decide) ?_
      exact z_iret hx hb hr hlocks hN hK hP hD hS hF dX6_cut_24
  · have hF := zif_t b1 hF
    refine lv_iload_n hx hb dX6_cut_7 rfl (lv_at hl 1 rfl) ?_
    refine lv_i2b (v := (p1 : Int32).toInt8.toInt32) hx hb dX6_cut_8 rfl ?_
    exact z_iret hx hb hr hlocks hN hK hP hD hS hF dX6_cut_9
theorem kX6_faultAs_f15 : Cond.fieldLink RX6 15 "LeastAsked$Sheet" "filled" "Z" ∈ wsX6_faultAs := by decide +kernel
theorem kX6_faultAs_f19 : Cond.fieldLink RX6 19 "LeastAsked$Sheet" "lane" "I" ∈ wsX6_faultAs := by decide +kernel
theorem iX6_faultAs_X6 : ∀ w ∈ u_ws RX6 TX6 4, w ∈ wsX6_faultAs := fun _ h => List.mem_cons_of_mem _ (List.mem_append_right _ h)
set_option maxHeartbeats 4000000 in
set_option maxRecDepth 100000 in
theorem CX6_faultAs (l : Launch) (D : va_G) (cI cS cP : ClassId) (ad : Nat → Nat) (A : Nat → Prop) (n : Nat) (σ σ' : zMem) (r0 : Int32) (o : Nat) (p1 : Int32) (ho : zk o = 6) (hF : FX6_faultAs n o σ p1 = some (r0, σ')) : Met l yX6_faultAs wsX6_faultAs ({ frames := 0, cells := 0, slots := 0, locals := 0 } : Room) (va_Pc [.ref (ad o), .int p1] (zB (zx cI cS cP ad) 41 ad D (zty cI cS cP) A σ)) (va_Qi (fun r u => r = r0 ∧ u = σ') (zB (zx cI cS cP ad) 41 ad D (zty cI cS cP) A) A) 0 0 A := by
  refine Met.ofW (cc := cX6_faultAs) (maxL := 2) (ret := (some .int)) (by decide) rfl ?_
  intro p e s m args below meth c s₁ B hml hv
  obtain ⟨rfl, hP, hK, hD, hN⟩ := hv
  have hx := B.exec
  have hb := B.bytes
  have hr := B.returns
  have hts := atoms_spec (ws := wsX6_faultAs) B.pre
  have hown : s.vm.findClass RX6 = some m.cls := findClass_of_methodNamed B.named
  have hlocks := B.notSynchronized
  have hS : va_S A s.heap s.heap [] := va_S.rf
  have hl := lv_entry ([.ref (ad o), .int p1]) (n := 2) (Nat.le_of_ble_eq_true rfl)
  rw [lg_entry_eq]
  generalize (lg_sl ([.ref (ad o), .int p1]) ++ List.replicate (2 - (lg_sl ([.ref (ad o), .int p1])).length) Slot.unset).toArray = ls at hl ⊢
  have hl : lv_has ls 2 [(0, .ref (ad o)), (1, .int p1)] := hl
  clear B
  unfold FX6_faultAs at hF
  refine lv_aload_n hx hb dX6_faultAs_0 rfl (lv_at hl 0 rfl) ?_
  refine z_get (ci := 6) (C := RX6) (T := TX6) (N := 4) hx hb hts iX6_faultAs_X6 hown hK hP (zk_lt ho (by decide)) (zx_6 ho) rfl 1 (by decide) kX6_faultAs_f15 rfl (v := .int (σ o 1)) rfl dX6_faultAs_1 ?_
  refine lv_if_ne (tgt := 9) hx hb dX6_faultAs_4 (by decide) (fun b1 => ?_) (fun b1 => ?_)
  · have hF := zif_f b1 hF
    refine lv_aload_n hx hb dX6_faultAs_9 rfl (lv_at hl 0 rfl) ?_
    refine z_get (ci := 6) (C := RX6) (T := TX6) (N := 4) hx hb hts iX6_faultAs_X6 hown hK hP (zk_lt ho (by decide)) (zx_6 ho) rfl 2 (by decide) kX6_faultAs_f19 rfl (v := .int (σ o 2)) rfl dX6_faultAs_10 ?_
    refine lv_iload_n hx hb dX6_faultAs_13 rfl (lv_at hl 1 rfl) ?_
    refine lv_icmp_ne (tgt := 21) hx hb dX6_faultAs_14 (by decide) (fun b2 => ?_) (fun b2 => ?_)
    · have hF := zif_f b2 hF
      refine lv_iconst (v := (2 : Int32)) hx hb dX6_faultAs_21 (by decide) ?_
      exact z_iret hx hb hr hlocks hN hK hP hD hS hF dX6_faultAs_22
    · have hF := zif_t b2 hF
      refine lv_iconst (v := (0 : Int32)) hx hb dX6_faultAs_17 (by decide) ?_
      refine lv_goto (tgt := 22) hx hb dX6_faultAs_18 (by decide) ?_
      exact z_iret hx hb hr hlocks hN hK hP hD hS hF dX6_faultAs_22
  · have hF := zif_t b1 hF
    refine lv_iconst (v := (1 : Int32)) hx hb dX6_faultAs_7 (by decide) ?_
    exact z_iret hx hb hr hlocks hN hK hP hD hS hF dX6_faultAs_8
theorem kX6_holds_f23 : Cond.fieldLink RX6 23 "LeastAsked$Sheet" "length" "I" ∈ wsX6_holds := by decide +kernel
theorem iX6_holds_X6 : ∀ w ∈ u_ws RX6 TX6 4, w ∈ wsX6_holds := fun _ h => List.mem_cons_of_mem _ (List.mem_append_right _ h)
set_option maxHeartbeats 4000000 in
set_option maxRecDepth 100000 in
theorem CX6_holds (l : Launch) (D : va_G) (cI cS cP : ClassId) (ad : Nat → Nat) (A : Nat → Prop) (n : Nat) (σ σ' : zMem) (r0 : Int32) (o : Nat) (p1 : Int32) (p2 : Int32) (ho : zk o = 6) (hF : FX6_holds n o σ p1 p2 = some (r0, σ')) : Met l yX6_holds wsX6_holds ({ frames := 0, cells := 0, slots := 0, locals := 0 } : Room) (va_Pc [.ref (ad o), .int p1, .int p2] (zB (zx cI cS cP ad) 41 ad D (zty cI cS cP) A σ)) (va_Qi (fun r u => r = r0 ∧ u = σ') (zB (zx cI cS cP ad) 41 ad D (zty cI cS cP) A) A) 0 0 A := by
  refine Met.ofW (cc := cX6_holds) (maxL := 3) (ret := (some .boolean)) (by decide) rfl ?_
  intro p e s m args below meth c s₁ B hml hv
  obtain ⟨rfl, hP, hK, hD, hN⟩ := hv
  have hx := B.exec
  have hb := B.bytes
  have hr := B.returns
  have hts := atoms_spec (ws := wsX6_holds) B.pre
  have hown : s.vm.findClass RX6 = some m.cls := findClass_of_methodNamed B.named
  have hlocks := B.notSynchronized
  have hS : va_S A s.heap s.heap [] := va_S.rf
  have hl := lv_entry ([.ref (ad o), .int p1, .int p2]) (n := 3) (Nat.le_of_ble_eq_true rfl)
  rw [lg_entry_eq]
  generalize (lg_sl ([.ref (ad o), .int p1, .int p2]) ++ List.replicate (3 - (lg_sl ([.ref (ad o), .int p1, .int p2])).length) Slot.unset).toArray = ls at hl ⊢
  have hl : lv_has ls 3 [(0, .ref (ad o)), (1, .int p1), (2, .int p2)] := hl
  clear B
  unfold FX6_holds at hF
  refine lv_iload_n hx hb dX6_holds_0 rfl (lv_at hl 1 rfl) ?_
  refine lv_if_lt (tgt := 30) hx hb dX6_holds_1 (by decide) (fun b1 => ?_) (fun b1 => ?_)
  · have hF := zif_t b1 hF
    refine lv_iconst (v := (0 : Int32)) hx hb dX6_holds_30 (by decide) ?_
    exact z_zret hx hb hr hlocks (Or.inl rfl) hN hK hP hD hS hF dX6_holds_31
  · have hF := zif_f b1 hF
    refine lv_iload_n hx hb dX6_holds_4 rfl (lv_at hl 1 rfl) ?_
    refine lv_aload_n hx hb dX6_holds_5 rfl (lv_at hl 0 rfl) ?_
    refine z_get (ci := 6) (C := RX6) (T := TX6) (N := 4) hx hb hts iX6_holds_X6 hown hK hP (zk_lt ho (by decide)) (zx_6 ho) rfl 3 (by decide) kX6_holds_f23 rfl (v := .int (σ o 3)) rfl dX6_holds_6 ?_
    refine lv_icmp_gt (tgt := 30) hx hb dX6_holds_9 (by decide) (fun b2 => ?_) (fun b2 => ?_)
    · have hF := zif_t b2 hF
      refine lv_iconst (v := (0 : Int32)) hx hb dX6_holds_30 (by decide) ?_
      exact z_zret hx hb hr hlocks (Or.inl rfl) hN hK hP hD hS hF dX6_holds_31
    · have hF := zif_f b2 hF
      refine lv_iload_n hx hb dX6_holds_12 rfl (lv_at hl 2 rfl) ?_
      refine lv_if_lt (tgt := 30) hx hb dX6_holds_13 (by decide) (fun b3 => ?_) (fun b3 => ?_)
      · have hF := zif_t b3 hF
        refine lv_iconst (v := (0 : Int32)) hx hb dX6_holds_30 (by decide) ?_
        exact z_zret hx hb hr hlocks (Or.inl rfl) hN hK hP hD hS hF dX6_holds_31
      · have hF := zif_f b3 hF
        refine lv_iload_n hx hb dX6_holds_16 rfl (lv_at hl 2 rfl) ?_
        refine lv_aload_n hx hb dX6_holds_17 rfl (lv_at hl 0 rfl) ?_
        refine z_get (ci := 6) (C := RX6) (T := TX6) (N := 4) hx hb hts iX6_holds_X6 hown hK hP (zk_lt ho (by decide)) (zx_6 ho) rfl 3 (by decide) kX6_holds_f23 rfl (v := .int (σ o 3)) rfl dX6_holds_18 ?_
        refine lv_iload_n hx hb dX6_holds_21 rfl (lv_at hl 1 rfl) ?_
        refine lv_isub hx hb dX6_holds_22 ?_
        refine lv_icmp_gt (tgt := 30) hx hb dX6_holds_23 (by decide) (fun b4 => ?_) (fun b4 => ?_)
        · have hF := zif_t b4 hF
          refine lv_iconst (v := (0 : Int32)) hx hb dX6_holds_30 (by decide) ?_
          exact z_zret hx hb hr hlocks (Or.inl rfl) hN hK hP hD hS hF dX6_holds_31
        · have hF := zif_f b4 hF
          refine lv_iconst (v := (1 : Int32)) hx hb dX6_holds_26 (by decide) ?_
          refine lv_goto (tgt := 31) hx hb dX6_holds_27 (by decide) ?_
          exact z_zret hx hb hr hlocks (Or.inr rfl) hN hK hP hD hS hF dX6_holds_31
set_option maxHeartbeats 4000000 in
set_option maxRecDepth 100000 in
theorem CX7_isDigit (l : Launch) (D : va_G) (cI cS cP : ClassId) (ad : Nat → Nat) (A : Nat → Prop) (n : Nat) (σ σ' : zMem) (r0 : Int32) (p1 : Int32) (p2 : Int32) (hF : FX7_isDigit n σ p1 p2 = some (r0, σ')) : Met l yX7_isDigit wsX7_isDigit ({ frames := 0, cells := 0, slots := 0, locals := 0 } : Room) (va_Pc [.int p1, .int p2] (zB (zx cI cS cP ad) 41 ad D (zty cI cS cP) A σ)) (va_Qi (fun r u => r = r0 ∧ u = σ') (zB (zx cI cS cP ad) 41 ad D (zty cI cS cP) A) A) 0 0 A := by
  refine Met.ofW (cc := cX7_isDigit) (maxL := 2) (ret := (some .boolean)) (by decide) rfl ?_
  intro p e s m args below meth c s₁ B hml hv
  obtain ⟨rfl, hP, hK, hD, hN⟩ := hv
  have hx := B.exec
  have hb := B.bytes
  have hr := B.returns
  have hts := atoms_spec (ws := wsX7_isDigit) B.pre
  have hown : s.vm.findClass RX7 = some m.cls := findClass_of_methodNamed B.named
  have hlocks := B.notSynchronized
  have hS : va_S A s.heap s.heap [] := va_S.rf
  have hl := lv_entry ([.int p1, .int p2]) (n := 2) (Nat.le_of_ble_eq_true rfl)
  rw [lg_entry_eq]
  generalize (lg_sl ([.int p1, .int p2]) ++ List.replicate (2 - (lg_sl ([.int p1, .int p2])).length) Slot.unset).toArray = ls at hl ⊢
  have hl : lv_has ls 2 [(0, .int p1), (1, .int p2)] := hl
  clear B
  unfold FX7_isDigit at hF
  refine lv_iload_n hx hb dX7_isDigit_0 rfl (lv_at hl 0 rfl) ?_
  refine lv_bipush (v := (48 : Int32)) hx hb dX7_isDigit_1 (by decide) ?_
  refine lv_icmp_lt (tgt := 18) hx hb dX7_isDigit_3 (by decide) (fun b1 => ?_) (fun b1 => ?_)
  · have hF := zif_t b1 hF
    refine lv_iconst (v := (0 : Int32)) hx hb dX7_isDigit_18 (by decide) ?_
    exact z_zret hx hb hr hlocks (Or.inl rfl) hN hK hP hD hS hF dX7_isDigit_19
  · have hF := zif_f b1 hF
    refine lv_iload_n hx hb dX7_isDigit_6 rfl (lv_at hl 0 rfl) ?_
    refine lv_bipush (v := (48 : Int32)) hx hb dX7_isDigit_7 (by decide) ?_
    refine lv_iload_n hx hb dX7_isDigit_9 rfl (lv_at hl 1 rfl) ?_
    refine lv_iadd hx hb dX7_isDigit_10 ?_
    refine lv_icmp_ge (tgt := 18) hx hb dX7_isDigit_11 (by decide) (fun b2 => ?_) (fun b2 => ?_)
    · have hF := zif_t b2 hF
      refine lv_iconst (v := (0 : Int32)) hx hb dX7_isDigit_18 (by decide) ?_
      exact z_zret hx hb hr hlocks (Or.inl rfl) hN hK hP hD hS hF dX7_isDigit_19
    · have hF := zif_f b2 hF
      refine lv_iconst (v := (1 : Int32)) hx hb dX7_isDigit_14 (by decide) ?_
      refine lv_goto (tgt := 19) hx hb dX7_isDigit_15 (by decide) ?_
      exact z_zret hx hb hr hlocks (Or.inr rfl) hN hK hP hD hS hF dX7_isDigit_19
set_option maxHeartbeats 4000000 in
set_option maxRecDepth 100000 in
theorem CX7_kindOf (l : Launch) (D : va_G) (cI cS cP : ClassId) (ad : Nat → Nat) (A : Nat → Prop) (n : Nat) (σ σ' : zMem) (r0 : Int32) (p1 : Int32) (hF : FX7_kindOf n σ p1 = some (r0, σ')) : Met l yX7_kindOf wsX7_kindOf ({ frames := 0, cells := 0, slots := 0, locals := 0 } : Room) (va_Pc [.int p1] (zB (zx cI cS cP ad) 41 ad D (zty cI cS cP) A σ)) (va_Qi (fun r u => r = r0 ∧ u = σ') (zB (zx cI cS cP ad) 41 ad D (zty cI cS cP) A) A) 0 0 A := by
  refine Met.ofW (cc := cX7_kindOf) (maxL := 1) (ret := (some .int)) (by decide) rfl ?_
  intro p e s m args below meth c s₁ B hml hv
  obtain ⟨rfl, hP, hK, hD, hN⟩ := hv
  have hx := B.exec
  have hb := B.bytes
  have hr := B.returns
  have hts := atoms_spec (ws := wsX7_kindOf) B.pre
  have hown : s.vm.findClass RX7 = some m.cls := findClass_of_methodNamed B.named
  have hlocks := B.notSynchronized
  have hS : va_S A s.heap s.heap [] := va_S.rf
  have hl := lv_entry ([.int p1]) (n := 1) (Nat.le_of_ble_eq_true rfl)
  rw [lg_entry_eq]
  generalize (lg_sl ([.int p1]) ++ List.replicate (1 - (lg_sl ([.int p1])).length) Slot.unset).toArray = ls at hl ⊢
  have hl : lv_has ls 1 [(0, .int p1)] := hl
  clear B
  unfold FX7_kindOf at hF
  refine lv_iload_n hx hb dX7_kindOf_0 rfl (lv_at hl 0 rfl) ?_
  by_cases b1 : p1 = (103 : Int32)
  · have hF := zif_t b1 hF
    refine lv_lookup (off := 35) (tgt := 36) hx hb dX7_kindOf_1 (by decide) (by rw [b1]; try rfl) (by decide) ?_
    refine lv_iconst (v := (0 : Int32)) hx hb dX7_kindOf_36 (by decide) ?_
    exact z_iret hx hb hr hlocks hN hK hP hD hS hF dX7_kindOf_37
  · have hF := zif_f b1 hF
    by_cases b2 : p1 = (104 : Int32)
    · have hF := zif_t b2 hF
      refine lv_lookup (off := 39) (tgt := 40) hx hb dX7_kindOf_1 (by decide) (by rw [b2]; try rfl) (by decide) ?_
      refine lv_iconst (v := (2 : Int32)) hx hb dX7_kindOf_40 (by decide) ?_
      exact z_iret hx hb hr hlocks hN hK hP hD hS hF dX7_kindOf_41
    · have hF := zif_f b2 hF
      by_cases b3 : p1 = (116 : Int32)
      · have hF := zif_t b3 hF
        refine lv_lookup (off := 37) (tgt := 38) hx hb dX7_kindOf_1 (by decide) (by rw [b3]; try rfl) (by decide) ?_
        refine lv_iconst (v := (1 : Int32)) hx hb dX7_kindOf_38 (by decide) ?_
        exact z_iret hx hb hr hlocks hN hK hP hD hS hF dX7_kindOf_39
      · have hF := zif_f b3 hF
        refine lv_lookup (off := 41) (tgt := 42) hx hb dX7_kindOf_1 (by decide) (by show Op.lookupswitch.offset [(103, 35), (104, 39), (116, 37)] (41) _ = _; rw [lv_osw b1 (by decide), lv_osw b2 (by decide), lv_osw b3 (by decide)]; try rfl) (by decide) ?_
        refine lv_bipush (v := (-9 : Int32)) hx hb dX7_kindOf_42 (by decide) ?_
        exact z_iret hx hb hr hlocks hN hK hP hD hS hF dX7_kindOf_44
set_option maxHeartbeats 4000000 in
set_option maxRecDepth 100000 in
theorem CX7_mayStand (l : Launch) (D : va_G) (cI cS cP : ClassId) (ad : Nat → Nat) (A : Nat → Prop) (n : Nat) (σ σ' : zMem) (r0 : Int32) (p1 : Int32) (p2 : Int32) (hF : FX7_mayStand n σ p1 p2 = some (r0, σ')) : Met l yX7_mayStand wsX7_mayStand ({ frames := 1, cells := 0, slots := 0, locals := 21 } : Room) (va_Pc [.int p1, .int p2] (zB (zx cI cS cP ad) 41 ad D (zty cI cS cP) A σ)) (va_Qi (fun r u => r = r0 ∧ u = σ') (zB (zx cI cS cP ad) 41 ad D (zty cI cS cP) A) A) 0 0 A := by
  refine Met.ofW (cc := cX7_mayStand) (maxL := 2) (ret := (some .boolean)) (by decide) rfl ?_
  intro p e s m args below meth c s₁ B hml hv
  obtain ⟨rfl, hP, hK, hD, hN⟩ := hv
  have hx := B.exec
  have hb := B.bytes
  have hr := B.returns
  have hts := atoms_spec (ws := wsX7_mayStand) B.pre
  have hown : s.vm.findClass RX7 = some m.cls := findClass_of_methodNamed B.named
  have hlocks := B.notSynchronized
  have hS : va_S A s.heap s.heap [] := va_S.rf
  have hl := lv_entry ([.int p1, .int p2]) (n := 2) (Nat.le_of_ble_eq_true rfl)
  rw [lg_entry_eq]
  generalize (lg_sl ([.int p1, .int p2]) ++ List.replicate (2 - (lg_sl ([.int p1, .int p2])).length) Slot.unset).toArray = ls at hl ⊢
  have hl : lv_has ls 2 [(0, .int p1), (1, .int p2)] := hl
  clear B
  have hB106 : ∀ (σ : zMem) (l0 : Int32) (l1 : Int32), ∀ (H : Heap) (locs : List Loc) (ls : Array Slot), BX7_mayStand_106 n σ l0 l1 = some (r0, σ') → va_P D vwCl (zW (zx cI cS cP ad) 41 ad σ) H → va_D A (zW (zx cI cS cP ad) 41 ad σ) → va_S A s.heap H locs → lv_has ls 2 [(0, .int l0), (1, .int l1)] → W p l e (headSpec wsX7_mayStand ({ frames := 1, cells := 0, slots := 0, locals := 21 } : Room)).room s m ([.int p1, .int p2] : List Value).toArray below meth c H locs 0 0 (MQ below (va_Qi (fun r u => r = r0 ∧ u = σ') (zB (zx cI cS cP ad) 41 ad D (zty cI cS cP) A) A) ([.int p1, .int p2] : List Value).toArray s 0 0 A) (F0 m 106 ls []) := by
    intro σ l0 l1 H locs ls hF hP hD hS hl
    unfold BX7_mayStand_106 at hF
    refine lv_iload_n hx hb dX7_mayStand_106 rfl (lv_at hl 1 rfl) ?_
    refine lv_bipush (v := (10 : Int32)) hx hb dX7_mayStand_107 (by decide) ?_
    obtain ⟨r2, σ1, hC3, hF⟩ := zbd_inv hF
    refine z_calli (va_runS (As := [.int l1, .int (10 : Int32)]) (rest := []) ⟨hx, hb, hml, hown, hts⟩ (CX7_isDigit l D cI cS cP ad A n σ σ1 r2 l1 (10 : Int32) hC3) (va_cwS 2 hts gX7_mayStand_X7_isDigit rfl rfl rfl (by decide +kernel) ⟨Nat.le_of_ble_eq_true rfl, Nat.le_of_ble_eq_true rfl⟩) (z_preS hN hK hP hD) rfl rfl hl.1 rfl (lv_room (Nat.le_of_ble_eq_true rfl)) dX7_mayStand_109 ⟨Nat.zero_le _, Nat.zero_le _⟩) hS (fun H locs hP hD hS => ?_)
    obtain ⟨g4, hF⟩ := zgd_inv hF
    exact z_zret hx hb hr hlocks g4 hN hK hP hD hS hF dX7_mayStand_112
  unfold FX7_mayStand at hF
  refine lv_iload_n hx hb dX7_mayStand_0 rfl (lv_at hl 0 rfl) ?_
  refine lv_if_ne (tgt := 16) hx hb dX7_mayStand_1 (by decide) (fun b5 => ?_) (fun b5 => ?_)
  · have hF := zif_f b5 hF
    refine lv_iload_n hx hb dX7_mayStand_16 rfl (lv_at hl 0 rfl) ?_
    refine lv_iconst (v := (4 : Int32)) hx hb dX7_mayStand_17 (by decide) ?_
    refine lv_icmp_ge (tgt := 28) hx hb dX7_mayStand_18 (by decide) (fun b6 => ?_) (fun b6 => ?_)
    · have hF := zif_t b6 hF
      refine lv_iload_n hx hb dX7_mayStand_28 rfl (lv_at hl 0 rfl) ?_
      refine lv_bipush (v := (34 : Int32)) hx hb dX7_mayStand_29 (by decide) ?_
      refine lv_icmp_lt (tgt := 36) hx hb dX7_mayStand_31 (by decide) (fun b7 => ?_) (fun b7 => ?_)
      · have hF := zif_t b7 hF
        refine lv_iload_n hx hb dX7_mayStand_36 rfl (lv_at hl 0 rfl) ?_
        refine lv_iconst (v := (4 : Int32)) hx hb dX7_mayStand_37 (by decide) ?_
        refine lv_isub hx hb dX7_mayStand_38 ?_
        refine lv_iconst (v := (5 : Int32)) hx hb dX7_mayStand_39 (by decide) ?_
        refine lv_irem hx hb dX7_mayStand_40 (by decide) ?_
        by_cases b8 : ((p1 - (4 : Int32)) - (p1 - (4 : Int32)) / (5 : Int32) * (5 : Int32)) = (0 : Int32)
        · have hF := zif_t b8 hF
          refine lv_tableIn (tgt := 72) hx hb dX7_mayStand_41 (by rw [b8]; decide) (by rw [b8]; decide) (by rw [b8]; rfl) (by decide) ?_
          refine lv_iload_n hx hb dX7_mayStand_72 rfl (lv_at hl 1 rfl) ?_
          refine lv_bipush (v := (59 : Int32)) hx hb dX7_mayStand_73 (by decide) ?_
          refine lv_icmp_ne (tgt := 82) hx hb dX7_mayStand_75 (by decide) (fun b9 => ?_) (fun b9 => ?_)
          · have hF := zif_f b9 hF
            refine lv_iconst (v := (0 : Int32)) hx hb dX7_mayStand_82 (by decide) ?_
            exact z_zret hx hb hr hlocks (Or.inl rfl) hN hK hP hD hS hF dX7_mayStand_83
          · have hF := zif_t b9 hF
            refine lv_iconst (v := (1 : Int32)) hx hb dX7_mayStand_78 (by decide) ?_
            refine lv_goto (tgt := 83) hx hb dX7_mayStand_79 (by decide) ?_
            exact z_zret hx hb hr hlocks (Or.inr rfl) hN hK hP hD hS hF dX7_mayStand_83
        · have hF := zif_f b8 hF
          by_cases b10 : ((p1 - (4 : Int32)) - (p1 - (4 : Int32)) / (5 : Int32) * (5 : Int32)) = (1 : Int32)
          · have hF := zif_t b10 hF
            refine lv_tableIn (tgt := 84) hx hb dX7_mayStand_41 (by rw [b10]; decide) (by rw [b10]; decide) (by rw [b10]; rfl) (by decide) ?_
            refine lv_iload_n hx hb dX7_mayStand_84 rfl (lv_at hl 1 rfl) ?_
            obtain ⟨r12, σ11, hC13, hF⟩ := zbd_inv hF
            refine z_calli (va_runS (As := [.int p2]) (rest := []) ⟨hx, hb, hml, hown, hts⟩ (CX7_kindOf l D cI cS cP ad A n σ σ11 r12 p2 hC13) (va_cwS 1 hts gX7_mayStand_X7_kindOf rfl rfl rfl (by decide +kernel) ⟨Nat.le_of_ble_eq_true rfl, Nat.le_of_ble_eq_true rfl⟩) (z_preS hN hK hP hD) rfl rfl hl.1 rfl (lv_room (Nat.le_of_ble_eq_true rfl)) dX7_mayStand_85 ⟨Nat.zero_le _, Nat.zero_le _⟩) hS (fun H locs hP hD hS => ?_)
            refine lv_bipush (v := (-9 : Int32)) hx hb dX7_mayStand_88 (by decide) ?_
            refine lv_icmp_eq (tgt := 97) hx hb dX7_mayStand_90 (by decide) (fun b14 => ?_) (fun b14 => ?_)
            · have hF := zif_t b14 hF
              refine lv_iconst (v := (0 : Int32)) hx hb dX7_mayStand_97 (by decide) ?_
              exact z_zret hx hb hr hlocks (Or.inl rfl) hN hK hP hD hS hF dX7_mayStand_98
            · have hF := zif_f b14 hF
              refine lv_iconst (v := (1 : Int32)) hx hb dX7_mayStand_93 (by decide) ?_
              refine lv_goto (tgt := 98) hx hb dX7_mayStand_94 (by decide) ?_
              exact z_zret hx hb hr hlocks (Or.inr rfl) hN hK hP hD hS hF dX7_mayStand_98
          · have hF := zif_f b10 hF
            by_cases b15 : ((p1 - (4 : Int32)) - (p1 - (4 : Int32)) / (5 : Int32) * (5 : Int32)) = (2 : Int32)
            · have hF := zif_t b15 hF
              refine lv_tableIn (tgt := 106) hx hb dX7_mayStand_41 (by rw [b15]; decide) (by rw [b15]; decide) (by rw [b15]; rfl) (by decide) ?_
              exact hB106 σ p1 p2 _ _ _ hF hP hD hS (lv_sub hl [0, 1] rfl)
            · have hF := zif_f b15 hF
              by_cases b16 : ((p1 - (4 : Int32)) - (p1 - (4 : Int32)) / (5 : Int32) * (5 : Int32)) = (3 : Int32)
              · have hF := zif_t b16 hF
                refine lv_tableIn (tgt := 99) hx hb dX7_mayStand_41 (by rw [b16]; decide) (by rw [b16]; decide) (by rw [b16]; rfl) (by decide) ?_
                refine lv_iload_n hx hb dX7_mayStand_99 rfl (lv_at hl 1 rfl) ?_
                refine lv_bipush (v := (8 : Int32)) hx hb dX7_mayStand_100 (by decide) ?_
                obtain ⟨r18, σ17, hC19, hF⟩ := zbd_inv hF
                refine z_calli (va_runS (As := [.int p2, .int (8 : Int32)]) (rest := []) ⟨hx, hb, hml, hown, hts⟩ (CX7_isDigit l D cI cS cP ad A n σ σ17 r18 p2 (8 : Int32) hC19) (va_cwS 2 hts gX7_mayStand_X7_isDigit rfl rfl rfl (by decide +kernel) ⟨Nat.le_of_ble_eq_true rfl, Nat.le_of_ble_eq_true rfl⟩) (z_preS hN hK hP hD) rfl rfl hl.1 rfl (lv_room (Nat.le_of_ble_eq_true rfl)) dX7_mayStand_102 ⟨Nat.zero_le _, Nat.zero_le _⟩) hS (fun H locs hP hD hS => ?_)
                obtain ⟨g20, hF⟩ := zgd_inv hF
                exact z_zret hx hb hr hlocks g20 hN hK hP hD hS hF dX7_mayStand_105
              · have hF := zif_f b16 hF
                refine lv_tableOut (tgt := 106) hx hb dX7_mayStand_41 (by have nb8 := lv_neT b8 (a := 0) (by decide); have nb10 := lv_neT b10 (a := 1) (by decide); have nb15 := lv_neT b15 (a := 2) (by decide); have nb16 := lv_neT b16 (a := 3) (by decide); omega) (by decide) ?_
                exact hB106 σ p1 p2 _ _ _ hF hP hD hS (lv_sub hl [0, 1] rfl)
      · have hF := zif_f b7 hF
        refine lv_iconst (v := (0 : Int32)) hx hb dX7_mayStand_34 (by decide) ?_
        exact z_zret hx hb hr hlocks (Or.inl rfl) hN hK hP hD hS hF dX7_mayStand_35
    · have hF := zif_f b6 hF
      refine lv_iload_n hx hb dX7_mayStand_21 rfl (lv_at hl 1 rfl) ?_
      refine lv_bipush (v := (10 : Int32)) hx hb dX7_mayStand_22 (by decide) ?_
      obtain ⟨r22, σ21, hC23, hF⟩ := zbd_inv hF
      refine z_calli (va_runS (As := [.int p2, .int (10 : Int32)]) (rest := []) ⟨hx, hb, hml, hown, hts⟩ (CX7_isDigit l D cI cS cP ad A n σ σ21 r22 p2 (10 : Int32) hC23) (va_cwS 2 hts gX7_mayStand_X7_isDigit rfl rfl rfl (by decide +kernel) ⟨Nat.le_of_ble_eq_true rfl, Nat.le_of_ble_eq_true rfl⟩) (z_preS hN hK hP hD) rfl rfl hl.1 rfl (lv_room (Nat.le_of_ble_eq_true rfl)) dX7_mayStand_24 ⟨Nat.zero_le _, Nat.zero_le _⟩) hS (fun H locs hP hD hS => ?_)
      obtain ⟨g24, hF⟩ := zgd_inv hF
      exact z_zret hx hb hr hlocks g24 hN hK hP hD hS hF dX7_mayStand_27
  · have hF := zif_t b5 hF
    refine lv_iload_n hx hb dX7_mayStand_4 rfl (lv_at hl 1 rfl) ?_
    refine lv_bipush (v := (112 : Int32)) hx hb dX7_mayStand_5 (by decide) ?_
    refine lv_icmp_ne (tgt := 14) hx hb dX7_mayStand_7 (by decide) (fun b25 => ?_) (fun b25 => ?_)
    · have hF := zif_f b25 hF
      refine lv_iconst (v := (0 : Int32)) hx hb dX7_mayStand_14 (by decide) ?_
      exact z_zret hx hb hr hlocks (Or.inl rfl) hN hK hP hD hS hF dX7_mayStand_15
    · have hF := zif_t b25 hF
      refine lv_iconst (v := (1 : Int32)) hx hb dX7_mayStand_10 (by decide) ?_
      refine lv_goto (tgt := 15) hx hb dX7_mayStand_11 (by decide) ?_
      exact z_zret hx hb hr hlocks (Or.inr rfl) hN hK hP hD hS hF dX7_mayStand_15
theorem kX7_firstFault_f9 : Cond.fieldLink RX7 9 "LeastAsked$Sheet" "cells" "[I" ∈ wsX7_firstFault := by decide +kernel
theorem iX7_firstFault_X6 : ∀ w ∈ u_ws RX6 TX6 4, w ∈ wsX7_firstFault := fun _ h => List.mem_cons_of_mem _ (List.mem_append_right _ h)
set_option maxHeartbeats 4000000 in
set_option maxRecDepth 100000 in
theorem CX7_firstFault (l : Launch) (D : va_G) (cI cS cP : ClassId) (ad : Nat → Nat) (A : Nat → Prop) (n : Nat) (σ σ' : zMem) (r0 : Int32) (q1 : Nat) (p2 : Int32) (p3 : Int32) (hq1 : zk q1 = 6) (hF : FX7_firstFault n q1 σ p2 p3 = some (r0, σ')) : Met l yX7_firstFault wsX7_firstFault ({ frames := 2, cells := 0, slots := 0, locals := 42 } : Room) (va_Pc [.ref (ad q1), .int p2, .int p3] (zB (zx cI cS cP ad) 41 ad D (zty cI cS cP) A σ)) (va_Qi (fun r u => r = r0 ∧ u = σ') (zB (zx cI cS cP ad) 41 ad D (zty cI cS cP) A) A) 0 0 A := by
  refine Met.ofW (cc := cX7_firstFault) (maxL := 4) (ret := (some .int)) (by decide) rfl ?_
  intro p e s m args below meth c s₁ B hml hv
  obtain ⟨rfl, hP, hK, hD, hN⟩ := hv
  have hx := B.exec
  have hb := B.bytes
  have hr := B.returns
  have hts := atoms_spec (ws := wsX7_firstFault) B.pre
  have hown : s.vm.findClass RX7 = some m.cls := findClass_of_methodNamed B.named
  have hlocks := B.notSynchronized
  have hS : va_S A s.heap s.heap [] := va_S.rf
  have hl := lv_entry ([.ref (ad q1), .int p2, .int p3]) (n := 4) (Nat.le_of_ble_eq_true rfl)
  rw [lg_entry_eq]
  generalize (lg_sl ([.ref (ad q1), .int p2, .int p3]) ++ List.replicate (4 - (lg_sl ([.ref (ad q1), .int p2, .int p3])).length) Slot.unset).toArray = ls at hl ⊢
  have hl : lv_has ls 4 [(0, .ref (ad q1)), (1, .int p2), (2, .int p3)] := hl
  clear B
  have hB49 : ∀ (σ : zMem) (l1 : Int32) (l2 : Int32) (l3 : Int32) (s0 : Int32), ∀ (H : Heap) (locs : List Loc) (ls : Array Slot), BX7_firstFault_49 n q1 σ l1 l2 l3 s0 = some (r0, σ') → va_P D vwCl (zW (zx cI cS cP ad) 41 ad σ) H → va_D A (zW (zx cI cS cP ad) 41 ad σ) → va_S A s.heap H locs → lv_has ls 4 [(0, .ref (ad q1)), (1, .int l1), (2, .int l2), (3, .int l3)] → W p l e (headSpec wsX7_firstFault ({ frames := 2, cells := 0, slots := 0, locals := 42 } : Room)).room s m ([.ref (ad q1), .int p2, .int p3] : List Value).toArray below meth c H locs 0 0 (MQ below (va_Qi (fun r u => r = r0 ∧ u = σ') (zB (zx cI cS cP ad) 41 ad D (zty cI cS cP) A) A) ([.ref (ad q1), .int p2, .int p3] : List Value).toArray s 0 0 A) (F0 m 49 ls [.int s0]) := by
    intro σ l1 l2 l3 s0 H locs ls hF hP hD hS hl
    unfold BX7_firstFault_49 at hF
    refine lv_istore_n (lv' := [(3, .int s0), (0, .ref (ad q1)), (1, .int l1), (2, .int l2)]) hx hb dX7_firstFault_49 rfl hl (by decide) rfl (fun ls hl => ?_)
    refine lv_iload_n hx hb dX7_firstFault_50 rfl (lv_at hl 0 rfl) ?_
    refine lv_if_eq (tgt := 59) hx hb dX7_firstFault_51 (by decide) (fun b1 => ?_) (fun b1 => ?_)
    · have hF := zif_t b1 hF
      refine lv_iload_n hx hb dX7_firstFault_59 rfl (lv_at hl 3 rfl) ?_
      exact z_iret hx hb hr hlocks hN hK hP hD hS hF dX7_firstFault_60
    · have hF := zif_f b1 hF
      refine lv_bipush (v := (-9 : Int32)) hx hb dX7_firstFault_54 (by decide) ?_
      refine lv_goto (tgt := 60) hx hb dX7_firstFault_56 (by decide) ?_
      exact z_iret hx hb hr hlocks hN hK hP hD hS hF dX7_firstFault_60
  have hB48 : ∀ (σ : zMem) (l1 : Int32) (l2 : Int32) (l3 : Int32), ∀ (H : Heap) (locs : List Loc) (ls : Array Slot), BX7_firstFault_48 n q1 σ l1 l2 l3 = some (r0, σ') → va_P D vwCl (zW (zx cI cS cP ad) 41 ad σ) H → va_D A (zW (zx cI cS cP ad) 41 ad σ) → va_S A s.heap H locs → lv_has ls 4 [(0, .ref (ad q1)), (1, .int l1), (2, .int l2), (3, .int l3)] → W p l e (headSpec wsX7_firstFault ({ frames := 2, cells := 0, slots := 0, locals := 42 } : Room)).room s m ([.ref (ad q1), .int p2, .int p3] : List Value).toArray below meth c H locs 0 0 (MQ below (va_Qi (fun r u => r = r0 ∧ u = σ') (zB (zx cI cS cP ad) 41 ad D (zty cI cS cP) A) A) ([.ref (ad q1), .int p2, .int p3] : List Value).toArray s 0 0 A) (F0 m 48 ls []) := by
    intro σ l1 l2 l3 H locs ls hF hP hD hS hl
    unfold BX7_firstFault_48 at hF
    refine lv_iconst (v := (0 : Int32)) hx hb dX7_firstFault_48 (by decide) ?_
    exact hB49 σ l1 l2 l3 (0 : Int32) _ _ _ hF hP hD hS (lv_sub hl [0, 1, 2, 3] rfl)
  have hB2 : ∀ (f2 : Nat) (σ : zMem) (l1 : Int32) (l2 : Int32) (l3 : Int32), ∀ (H : Heap) (locs : List Loc) (ls : Array Slot), zlp (LX7_firstFault_2 n q1) f2 (σ, l1, l2, l3) = some (r0, σ') → va_P D vwCl (zW (zx cI cS cP ad) 41 ad σ) H → va_D A (zW (zx cI cS cP ad) 41 ad σ) → va_S A s.heap H locs → lv_has ls 4 [(0, .ref (ad q1)), (1, .int l1), (2, .int l2), (3, .int l3)] → W p l e (headSpec wsX7_firstFault ({ frames := 2, cells := 0, slots := 0, locals := 42 } : Room)).room s m ([.ref (ad q1), .int p2, .int p3] : List Value).toArray below meth c H locs 0 0 (MQ below (va_Qi (fun r u => r = r0 ∧ u = σ') (zB (zx cI cS cP ad) 41 ad D (zty cI cS cP) A) A) ([.ref (ad q1), .int p2, .int p3] : List Value).toArray s 0 0 A) (F0 m 2 ls []) := by
    intro f2
    induction f2 with
    | zero => intro σ l1 l2 l3 H locs ls hF hP hD hS hl; exact (zlp_0 hF).elim
    | succ f2 ih2 =>
      intro σ l1 l2 l3 H locs ls hF hP hD hS hl
      have hF : LBX7_firstFault_2 n q1  (zlp (LX7_firstFault_2 n q1) f2) σ l1 l2 l3 = some (r0, σ') := hF
      unfold LBX7_firstFault_2 at hF
      refine lv_iload_n hx hb dX7_firstFault_2 rfl (lv_at hl 3 rfl) ?_
      refine lv_iload_n hx hb dX7_firstFault_3 rfl (lv_at hl 2 rfl) ?_
      refine lv_icmp_ge (tgt := 30) hx hb dX7_firstFault_4 (by decide) (fun b2 => ?_) (fun b2 => ?_)
      · have hF := zif_t b2 hF
        refine lv_iload_n hx hb dX7_firstFault_30 rfl (lv_at hl 2 rfl) ?_
        refine lv_bipush (v := (14 : Int32)) hx hb dX7_firstFault_31 (by decide) ?_
        refine lv_icmp_lt (tgt := 48) hx hb dX7_firstFault_33 (by decide) (fun b3 => ?_) (fun b3 => ?_)
        · have hF := zif_t b3 hF
          exact hB48 σ l1 l2 l3 _ _ _ hF hP hD hS (lv_sub hl [0, 1, 2, 3] rfl)
        · have hF := zif_f b3 hF
          refine lv_iload_n hx hb dX7_firstFault_36 rfl (lv_at hl 2 rfl) ?_
          refine lv_iconst (v := (4 : Int32)) hx hb dX7_firstFault_37 (by decide) ?_
          refine lv_isub hx hb dX7_firstFault_38 ?_
          refine lv_iconst (v := (5 : Int32)) hx hb dX7_firstFault_39 (by decide) ?_
          refine lv_irem hx hb dX7_firstFault_40 (by decide) ?_
          refine lv_if_ne (tgt := 48) hx hb dX7_firstFault_41 (by decide) (fun b4 => ?_) (fun b4 => ?_)
          · have hF := zif_f b4 hF
            exact hB48 σ l1 l2 l3 _ _ _ hF hP hD hS (lv_sub hl [0, 1, 2, 3] rfl)
          · have hF := zif_t b4 hF
            refine lv_iconst (v := (1 : Int32)) hx hb dX7_firstFault_44 (by decide) ?_
            refine lv_goto (tgt := 49) hx hb dX7_firstFault_45 (by decide) ?_
            exact hB49 σ l1 l2 l3 (1 : Int32) _ _ _ hF hP hD hS (lv_sub hl [0, 1, 2, 3] rfl)
      · have hF := zif_f b2 hF
        refine lv_iload_n hx hb dX7_firstFault_7 rfl (lv_at hl 3 rfl) ?_
        refine lv_aload_n hx hb dX7_firstFault_8 rfl (lv_at hl 0 rfl) ?_
        refine z_get (ci := 6) (C := RX6) (T := TX6) (N := 4) hx hb hts iX7_firstFault_X6 hown hK hP (zk_lt hq1 (by decide)) (zx_6 hq1) rfl 0 (by decide) kX7_firstFault_f9 rfl (v := .ref (ad (q1 + 4))) rfl dX7_firstFault_9 ?_
        refine lv_iload_n hx hb dX7_firstFault_12 rfl (lv_at hl 1 rfl) ?_
        refine lv_iload_n hx hb dX7_firstFault_13 rfl (lv_at hl 3 rfl) ?_
        refine lv_iadd hx hb dX7_firstFault_14 ?_
        obtain ⟨g5, hF⟩ := zgd_inv hF
        refine z_iald hx hb hK hP (zk_lt (zk_6c hq1) (by decide)) (zx_160 (zk_6c hq1)) rfl g5 dX7_firstFault_15 ?_
        obtain ⟨r7, σ6, hC8, hF⟩ := zbd_inv hF
        refine z_calli (va_runS (As := [.int l3, .int (σ (q1 + 4) ((l1 + l3) : Int32).toNatClampNeg)]) (rest := []) ⟨hx, hb, hml, hown, hts⟩ (CX7_mayStand l D cI cS cP ad A n σ σ6 r7 l3 (σ (q1 + 4) ((l1 + l3) : Int32).toNatClampNeg) hC8) (va_cwS 2 hts gX7_firstFault_X7_mayStand rfl rfl rfl (by decide +kernel) ⟨Nat.le_of_ble_eq_true rfl, Nat.le_of_ble_eq_true rfl⟩) (z_preS hN hK hP hD) rfl rfl hl.1 rfl (lv_room (Nat.le_of_ble_eq_true rfl)) dX7_firstFault_16 ⟨Nat.zero_le _, Nat.zero_le _⟩) hS (fun H locs hP hD hS => ?_)
        refine lv_if_ne (tgt := 24) hx hb dX7_firstFault_19 (by decide) (fun b9 => ?_) (fun b9 => ?_)
        · have hF := zif_f b9 hF
          refine lv_iinc (v := (l3 + (1 : Int32))) (lv' := [(3, .int (l3 + (1 : Int32))), (0, .ref (ad q1)), (1, .int l1), (2, .int l2)]) hx hb dX7_firstFault_24 hl (k := 3) rfl rfl (by decide) rfl (fun ls hl => ?_)
          refine lv_goto (tgt := 2) hx hb dX7_firstFault_27 (by decide) ?_
          exact ih2 σ6 l1 l2 (l3 + (1 : Int32)) _ _ _ hF hP hD hS (lv_sub hl [1, 2, 3, 0] rfl)
        · have hF := zif_t b9 hF
          refine lv_iload_n hx hb dX7_firstFault_22 rfl (lv_at hl 3 rfl) ?_
          exact z_iret hx hb hr hlocks hN hK hP hD hS hF dX7_firstFault_23
  unfold FX7_firstFault at hF
  refine lv_iconst (v := (0 : Int32)) hx hb dX7_firstFault_0 (by decide) ?_
  refine lv_istore_n (lv' := [(3, .int (0 : Int32)), (0, .ref (ad q1)), (1, .int p2), (2, .int p3)]) hx hb dX7_firstFault_1 rfl hl (by decide) rfl (fun ls hl => ?_)
  exact hB2 n σ p2 p3 (0 : Int32) _ _ _ hF hP hD hS (lv_sub hl [1, 2, 3, 0] rfl)
theorem kX7_read_f33 : Cond.fieldLink RX7 33 "LeastAsked$Province" "count" "I" ∈ wsX7_read := by decide +kernel
theorem kX7_read_f37 : Cond.fieldLink RX7 37 "LeastAsked$Province" "people" "[LLeastAsked$Person;" ∈ wsX7_read := by decide +kernel
theorem kX7_read_f41 : Cond.fieldLink RX7 41 "LeastAsked$Person" "kind" "I" ∈ wsX7_read := by decide +kernel
theorem kX7_read_f46 : Cond.fieldLink RX7 46 "LeastAsked$Person" "asked" "I" ∈ wsX7_read := by decide +kernel
theorem kX7_read_f49 : Cond.fieldLink RX7 49 "LeastAsked$Person" "knows" "I" ∈ wsX7_read := by decide +kernel
theorem kX7_read_f52 : Cond.fieldLink RX7 52 "LeastAsked$Person" "wit" "I" ∈ wsX7_read := by decide +kernel
theorem kX7_read_f28 : Cond.fieldLink RX7 28 "LeastAsked$Province" "worths" "[I" ∈ wsX7_read := by decide +kernel
theorem kX7_read_f9 : Cond.fieldLink RX7 9 "LeastAsked$Sheet" "cells" "[I" ∈ wsX7_read := by decide +kernel
theorem iX7_read_X4 : ∀ w ∈ u_ws RX4 TX4 3, w ∈ wsX7_read := fun _ h => List.mem_cons_of_mem _ (List.mem_append_left _ (List.mem_append_right _ h))
theorem iX7_read_X2 : ∀ w ∈ u_ws RX2 TX2 4, w ∈ wsX7_read := fun _ h => List.mem_cons_of_mem _ (List.mem_append_right _ h)
theorem iX7_read_X6 : ∀ w ∈ u_ws RX6 TX6 4, w ∈ wsX7_read := fun _ h => List.mem_cons_of_mem _ (List.mem_append_left _ (List.mem_append_left _ (List.mem_append_right _ h)))
set_option maxHeartbeats 4000000 in
set_option maxRecDepth 100000 in
theorem CX7_read (l : Launch) (D : va_G) (cI cS cP : ClassId) (ad : Nat → Nat) (A : Nat → Prop) (n : Nat) (σ σ' : zMem) (r0 : Int32) (q1 : Nat) (q4 : Nat) (p2 : Int32) (p3 : Int32) (hq1 : zk q1 = 6) (hq4 : zk q4 = 4) (hF : FX7_read n q1 q4 σ p2 p3 = some (r0, σ')) : Met l yX7_read wsX7_read ({ frames := 1, cells := 0, slots := 0, locals := 20 } : Room) (va_Pc [.ref (ad q1), .int p2, .int p3, .ref (ad q4)] (zB (zx cI cS cP ad) 41 ad D (zty cI cS cP) A σ)) (va_Qv (fun u => u = σ') (zB (zx cI cS cP ad) 41 ad D (zty cI cS cP) A) A) 0 0 A := by
  refine Met.ofW (cc := cX7_read) (maxL := 8) (ret := none) (by decide) rfl ?_
  intro p e s m args below meth c s₁ B hml hv
  obtain ⟨rfl, hP, hK, hD, hN⟩ := hv
  have hx := B.exec
  have hb := B.bytes
  have hr := B.returns
  have hts := atoms_spec (ws := wsX7_read) B.pre
  have hown : s.vm.findClass RX7 = some m.cls := findClass_of_methodNamed B.named
  have hlocks := B.notSynchronized
  have hS : va_S A s.heap s.heap [] := va_S.rf
  have hl := lv_entry ([.ref (ad q1), .int p2, .int p3, .ref (ad q4)]) (n := 8) (Nat.le_of_ble_eq_true rfl)
  rw [lg_entry_eq]
  generalize (lg_sl ([.ref (ad q1), .int p2, .int p3, .ref (ad q4)]) ++ List.replicate (8 - (lg_sl ([.ref (ad q1), .int p2, .int p3, .ref (ad q4)])).length) Slot.unset).toArray = ls at hl ⊢
  have hl : lv_has ls 8 [(0, .ref (ad q1)), (1, .int p2), (2, .int p3), (3, .ref (ad q4))] := hl
  clear B
  have hB52 : ∀ (f52 : Nat) (σ : zMem) (l1 : Int32) (l2 : Int32) (l5 : Int32), ∀ (H : Heap) (locs : List Loc) (ls : Array Slot), zlp (LX7_read_52 n q1 q4) f52 (σ, l1, l2, l5) = some (r0, σ') → va_P D vwCl (zW (zx cI cS cP ad) 41 ad σ) H → va_D A (zW (zx cI cS cP ad) 41 ad σ) → va_S A s.heap H locs → lv_has ls 8 [(0, .ref (ad q1)), (1, .int l1), (2, .int l2), (3, .ref (ad q4)), (4, .ref (ad (q1 + 4))), (5, .int l5)] → W p l e (headSpec wsX7_read ({ frames := 1, cells := 0, slots := 0, locals := 20 } : Room)).room s m ([.ref (ad q1), .int p2, .int p3, .ref (ad q4)] : List Value).toArray below meth c H locs 0 0 (MQ below (va_Qv (fun u => u = σ') (zB (zx cI cS cP ad) 41 ad D (zty cI cS cP) A) A) ([.ref (ad q1), .int p2, .int p3, .ref (ad q4)] : List Value).toArray s 0 0 A) (F0 m 52 ls []) := by
    intro f52
    induction f52 with
    | zero => intro σ l1 l2 l5 H locs ls hF hP hD hS hl; exact (zlp_0 hF).elim
    | succ f52 ih52 =>
      intro σ l1 l2 l5 H locs ls hF hP hD hS hl
      have hF : LBX7_read_52 n q1 q4  (zlp (LX7_read_52 n q1 q4) f52) σ l1 l2 l5 = some (r0, σ') := hF
      unfold LBX7_read_52 at hF
      refine lv_iload hx hb dX7_read_52 (lv_at hl 5 rfl) ?_
      refine lv_aload_n hx hb dX7_read_54 rfl (lv_at hl 3 rfl) ?_
      refine z_get (ci := 4) (C := RX4) (T := TX4) (N := 3) hx hb hts iX7_read_X4 hown hK hP (zk_lt hq4 (by decide)) (zx_4 hq4) rfl 2 (by decide) kX7_read_f33 rfl (v := .int (σ q4 2)) rfl dX7_read_55 ?_
      refine lv_icmp_ge (tgt := 146) hx hb dX7_read_58 (by decide) (fun b1 => ?_) (fun b1 => ?_)
      · have hF := zif_t b1 hF
        exact z_vret hx hb hr hlocks hN hK hP hD hS hF dX7_read_146
      · have hF := zif_f b1 hF
        refine lv_iload_n hx hb dX7_read_61 rfl (lv_at hl 1 rfl) ?_
        refine lv_iconst (v := (4 : Int32)) hx hb dX7_read_62 (by decide) ?_
        refine lv_iadd hx hb dX7_read_63 ?_
        refine lv_iload hx hb dX7_read_64 (lv_at hl 5 rfl) ?_
        refine lv_iconst (v := (5 : Int32)) hx hb dX7_read_66 (by decide) ?_
        refine lv_imul hx hb dX7_read_67 ?_
        refine lv_iadd hx hb dX7_read_68 ?_
        refine lv_istore (lv' := [(6, .int ((l1 + (4 : Int32)) + (l5 * (5 : Int32)))), (0, .ref (ad q1)), (1, .int l1), (2, .int l2), (3, .ref (ad q4)), (4, .ref (ad (q1 + 4))), (5, .int l5)]) hx hb dX7_read_69 hl (by decide) rfl (fun ls hl => ?_)
        refine lv_aload_n hx hb dX7_read_71 rfl (lv_at hl 4 rfl) ?_
        refine z_get (ci := 4) (C := RX4) (T := TX4) (N := 3) hx hb hts iX7_read_X4 hown hK hP (zk_lt hq4 (by decide)) (zx_4 hq4) rfl 1 (by decide) kX7_read_f37 rfl (v := .ref (ad (q4 + 2))) rfl dX7_read_72 ?_
        refine lv_iload hx hb dX7_read_75 (lv_at hl 6 rfl) ?_
        obtain ⟨g2, hF⟩ := zgd_inv hF
        refine z_aldq hx hb hK hP 2 (zk_lt (zk_4p hq4) (by decide)) (zx_22 (zk_4p hq4)) rfl g2 dX7_read_77 ?_
        refine lv_astore (lv' := [(7, .ref (ad ((q4 + 3) + (l5 : Int32).toNatClampNeg))), (6, .int ((l1 + (4 : Int32)) + (l5 * (5 : Int32)))), (0, .ref (ad q1)), (1, .int l1), (2, .int l2), (3, .ref (ad q4)), (4, .ref (ad (q1 + 4))), (5, .int l5)]) hx hb dX7_read_78 hl (by decide) rfl (fun ls hl => ?_)
        refine lv_aload hx hb dX7_read_80 (lv_at hl 0 rfl) ?_
        refine lv_aload hx hb dX7_read_82 (lv_at hl 6 rfl) ?_
        refine lv_iload hx hb dX7_read_84 (lv_at hl 1 rfl) ?_
        refine lv_iconst (v := (1 : Int32)) hx hb dX7_read_86 (by decide) ?_
        refine lv_iadd hx hb dX7_read_87 ?_
        obtain ⟨g3, hF⟩ := zgd_inv hF
        refine z_iald hx hb hK hP (zk_lt (zk_6c hq1) (by decide)) (zx_160 (zk_6c hq1)) rfl g3 dX7_read_88 ?_
        obtain ⟨r5, σ4, hC6, hF⟩ := zbd_inv hF
        refine z_calli (va_runS (As := [.int (σ (q1 + 4) ((((l1 + (4 : Int32)) + (l5 * (5 : Int32))) + (1 : Int32)) : Int32).toNatClampNeg)]) (rest := [.ref (ad ((q4 + 3) + (l5 : Int32).toNatClampNeg))]) ⟨hx, hb, hml, hown, hts⟩ (CX7_kindOf l D cI cS cP ad A n σ σ4 r5 (σ (q1 + 4) ((((l1 + (4 : Int32)) + (l5 * (5 : Int32))) + (1 : Int32)) : Int32).toNatClampNeg) hC6) (va_cwS 1 hts gX7_read_X7_kindOf rfl rfl rfl (by decide +kernel) ⟨Nat.le_of_ble_eq_true rfl, Nat.le_of_ble_eq_true rfl⟩) (z_preS hN hK hP hD) rfl rfl hl.1 rfl (lv_room (Nat.le_of_ble_eq_true rfl)) dX7_read_89 ⟨Nat.zero_le _, Nat.zero_le _⟩) hS (fun H locs hP hD hS => ?_)
        obtain ⟨σ7, eσ7, hF⟩ := zlet_inv hF
        refine z_put (ci := 2) (C := RX2) (T := TX2) (N := 4) hx hb hts iX7_read_X2 tyX2 tyX2_ok nmX2 hown hK hP hD hS (zk_lt (zk_22p (zk_4p hq4) g2) (by decide)) (zx_2 (zk_22p (zk_4p hq4) g2)) rfl 0 (by decide) kX7_read_f41 rfl rfl rfl rfl (Nat.le_of_ble_eq_true rfl) (zx_2 (zk_22p (zk_4p hq4) g2)) dX7_read_92 (fun H locs hP hD hS => ?_)
        have hP : va_P D vwCl (zW (zx cI cS cP ad) 41 ad σ7) H := by rw [eσ7]; exact hP
        have hD : va_D A (zW (zx cI cS cP ad) 41 ad σ7) := by rw [eσ7]; exact hD
        refine lv_aload hx hb dX7_read_95 (lv_at hl 0 rfl) ?_
        refine lv_aload hx hb dX7_read_97 (lv_at hl 6 rfl) ?_
        refine lv_iload hx hb dX7_read_99 (lv_at hl 1 rfl) ?_
        refine lv_iconst (v := (2 : Int32)) hx hb dX7_read_101 (by decide) ?_
        refine lv_iadd hx hb dX7_read_102 ?_
        obtain ⟨g8, hF⟩ := zgd_inv hF
        refine z_iald hx hb hK hP (zk_lt (zk_6c hq1) (by decide)) (zx_160 (zk_6c hq1)) rfl g8 dX7_read_103 ?_
        refine lv_bipush (v := (48 : Int32)) hx hb dX7_read_104 (by decide) ?_
        refine lv_isub hx hb dX7_read_106 ?_
        obtain ⟨σ9, eσ9, hF⟩ := zlet_inv hF
        refine z_put (ci := 2) (C := RX2) (T := TX2) (N := 4) hx hb hts iX7_read_X2 tyX2 tyX2_ok nmX2 hown hK hP hD hS (zk_lt (zk_22p (zk_4p hq4) g2) (by decide)) (zx_2 (zk_22p (zk_4p hq4) g2)) rfl 1 (by decide) kX7_read_f46 rfl rfl rfl rfl (Nat.le_of_ble_eq_true rfl) (zx_2 (zk_22p (zk_4p hq4) g2)) dX7_read_107 (fun H locs hP hD hS => ?_)
        have hP : va_P D vwCl (zW (zx cI cS cP ad) 41 ad σ9) H := by rw [eσ9]; exact hP
        have hD : va_D A (zW (zx cI cS cP ad) 41 ad σ9) := by rw [eσ9]; exact hD
        refine lv_aload hx hb dX7_read_110 (lv_at hl 0 rfl) ?_
        refine lv_aload hx hb dX7_read_112 (lv_at hl 6 rfl) ?_
        refine lv_iload hx hb dX7_read_114 (lv_at hl 1 rfl) ?_
        refine lv_iconst (v := (3 : Int32)) hx hb dX7_read_116 (by decide) ?_
        refine lv_iadd hx hb dX7_read_117 ?_
        obtain ⟨g10, hF⟩ := zgd_inv hF
        refine z_iald hx hb hK hP (zk_lt (zk_6c hq1) (by decide)) (zx_160 (zk_6c hq1)) rfl g10 dX7_read_118 ?_
        refine lv_bipush (v := (48 : Int32)) hx hb dX7_read_119 (by decide) ?_
        refine lv_isub hx hb dX7_read_121 ?_
        obtain ⟨σ11, eσ11, hF⟩ := zlet_inv hF
        refine z_put (ci := 2) (C := RX2) (T := TX2) (N := 4) hx hb hts iX7_read_X2 tyX2 tyX2_ok nmX2 hown hK hP hD hS (zk_lt (zk_22p (zk_4p hq4) g2) (by decide)) (zx_2 (zk_22p (zk_4p hq4) g2)) rfl 2 (by decide) kX7_read_f49 rfl rfl rfl rfl (Nat.le_of_ble_eq_true rfl) (zx_2 (zk_22p (zk_4p hq4) g2)) dX7_read_122 (fun H locs hP hD hS => ?_)
        have hP : va_P D vwCl (zW (zx cI cS cP ad) 41 ad σ11) H := by rw [eσ11]; exact hP
        have hD : va_D A (zW (zx cI cS cP ad) 41 ad σ11) := by rw [eσ11]; exact hD
        refine lv_aload hx hb dX7_read_125 (lv_at hl 0 rfl) ?_
        refine lv_aload hx hb dX7_read_127 (lv_at hl 6 rfl) ?_
        refine lv_iload hx hb dX7_read_129 (lv_at hl 1 rfl) ?_
        refine lv_iconst (v := (4 : Int32)) hx hb dX7_read_131 (by decide) ?_
        refine lv_iadd hx hb dX7_read_132 ?_
        obtain ⟨g12, hF⟩ := zgd_inv hF
        refine z_iald hx hb hK hP (zk_lt (zk_6c hq1) (by decide)) (zx_160 (zk_6c hq1)) rfl g12 dX7_read_133 ?_
        refine lv_bipush (v := (48 : Int32)) hx hb dX7_read_134 (by decide) ?_
        refine lv_isub hx hb dX7_read_136 ?_
        obtain ⟨σ13, eσ13, hF⟩ := zlet_inv hF
        refine z_put (ci := 2) (C := RX2) (T := TX2) (N := 4) hx hb hts iX7_read_X2 tyX2 tyX2_ok nmX2 hown hK hP hD hS (zk_lt (zk_22p (zk_4p hq4) g2) (by decide)) (zx_2 (zk_22p (zk_4p hq4) g2)) rfl 3 (by decide) kX7_read_f52 rfl rfl rfl rfl (Nat.le_of_ble_eq_true rfl) (zx_2 (zk_22p (zk_4p hq4) g2)) dX7_read_137 (fun H locs hP hD hS => ?_)
        have hP : va_P D vwCl (zW (zx cI cS cP ad) 41 ad σ13) H := by rw [eσ13]; exact hP
        have hD : va_D A (zW (zx cI cS cP ad) 41 ad σ13) := by rw [eσ13]; exact hD
        refine lv_iinc (v := (l5 + (1 : Int32))) (lv' := [(5, .int (l5 + (1 : Int32))), (7, .ref (ad ((q4 + 3) + (l5 : Int32).toNatClampNeg))), (6, .int ((l1 + (4 : Int32)) + (l5 * (5 : Int32)))), (0, .ref (ad q1)), (1, .int l1), (2, .int l2), (3, .ref (ad q4)), (4, .ref (ad (q1 + 4)))]) hx hb dX7_read_140 hl (k := 7) rfl rfl (by decide) rfl (fun ls hl => ?_)
        refine lv_goto (tgt := 52) hx hb dX7_read_143 (by decide) ?_
        exact ih52 σ13 l1 l2 (l5 + (1 : Int32)) _ _ _ hF hP hD hS (lv_sub hl [3, 4, 5, 6, 7, 0] rfl)
  have hB9 : ∀ (f9 : Nat) (σ : zMem) (l1 : Int32) (l2 : Int32) (l5 : Int32), ∀ (H : Heap) (locs : List Loc) (ls : Array Slot), zlp (LX7_read_9 n q1 q4) f9 (σ, l1, l2, l5) = some (r0, σ') → va_P D vwCl (zW (zx cI cS cP ad) 41 ad σ) H → va_D A (zW (zx cI cS cP ad) 41 ad σ) → va_S A s.heap H locs → lv_has ls 8 [(0, .ref (ad q1)), (1, .int l1), (2, .int l2), (3, .ref (ad q4)), (4, .ref (ad (q1 + 4))), (5, .int l5)] → W p l e (headSpec wsX7_read ({ frames := 1, cells := 0, slots := 0, locals := 20 } : Room)).room s m ([.ref (ad q1), .int p2, .int p3, .ref (ad q4)] : List Value).toArray below meth c H locs 0 0 (MQ below (va_Qv (fun u => u = σ') (zB (zx cI cS cP ad) 41 ad D (zty cI cS cP) A) A) ([.ref (ad q1), .int p2, .int p3, .ref (ad q4)] : List Value).toArray s 0 0 A) (F0 m 9 ls []) := by
    intro f9
    induction f9 with
    | zero => intro σ l1 l2 l5 H locs ls hF hP hD hS hl; exact (zlp_0 hF).elim
    | succ f9 ih9 =>
      intro σ l1 l2 l5 H locs ls hF hP hD hS hl
      have hF : LBX7_read_9 n q1 q4  (zlp (LX7_read_9 n q1 q4) f9) σ l1 l2 l5 = some (r0, σ') := hF
      unfold LBX7_read_9 at hF
      refine lv_iload hx hb dX7_read_9 (lv_at hl 5 rfl) ?_
      refine lv_iconst (v := (3 : Int32)) hx hb dX7_read_11 (by decide) ?_
      refine lv_icmp_ge (tgt := 40) hx hb dX7_read_12 (by decide) (fun b14 => ?_) (fun b14 => ?_)
      · have hF := zif_t b14 hF
        refine lv_aload_n hx hb dX7_read_40 rfl (lv_at hl 3 rfl) ?_
        refine lv_iload_n hx hb dX7_read_41 rfl (lv_at hl 2 rfl) ?_
        refine lv_iconst (v := (4 : Int32)) hx hb dX7_read_42 (by decide) ?_
        refine lv_isub hx hb dX7_read_43 ?_
        refine lv_iconst (v := (5 : Int32)) hx hb dX7_read_44 (by decide) ?_
        refine lv_idiv hx hb dX7_read_45 (by decide) ?_
        obtain ⟨σ15, eσ15, hF⟩ := zlet_inv hF
        refine z_put (ci := 4) (C := RX4) (T := TX4) (N := 3) hx hb hts iX7_read_X4 tyX4 tyX4_ok nmX4 hown hK hP hD hS (zk_lt hq4 (by decide)) (zx_4 hq4) rfl 2 (by decide) kX7_read_f33 rfl rfl rfl rfl (Nat.le_of_ble_eq_true rfl) (zx_4 hq4) dX7_read_46 (fun H locs hP hD hS => ?_)
        have hP : va_P D vwCl (zW (zx cI cS cP ad) 41 ad σ15) H := by rw [eσ15]; exact hP
        have hD : va_D A (zW (zx cI cS cP ad) 41 ad σ15) := by rw [eσ15]; exact hD
        refine lv_iconst (v := (0 : Int32)) hx hb dX7_read_49 (by decide) ?_
        refine lv_istore (lv' := [(5, .int (0 : Int32)), (0, .ref (ad q1)), (1, .int l1), (2, .int l2), (3, .ref (ad q4)), (4, .ref (ad (q1 + 4)))]) hx hb dX7_read_50 hl (by decide) rfl (fun ls hl => ?_)
        exact hB52 n σ15 l1 l2 (0 : Int32) _ _ _ hF hP hD hS (lv_sub hl [1, 2, 3, 4, 5, 0] rfl)
      · have hF := zif_f b14 hF
        refine lv_aload_n hx hb dX7_read_15 rfl (lv_at hl 3 rfl) ?_
        refine z_get (ci := 4) (C := RX4) (T := TX4) (N := 3) hx hb hts iX7_read_X4 hown hK hP (zk_lt hq4 (by decide)) (zx_4 hq4) rfl 0 (by decide) kX7_read_f28 rfl (v := .ref (ad (q4 + 1))) rfl dX7_read_16 ?_
        refine lv_iload hx hb dX7_read_19 (lv_at hl 5 rfl) ?_
        refine lv_aload hx hb dX7_read_21 (lv_at hl 4 rfl) ?_
        refine lv_iload_n hx hb dX7_read_23 rfl (lv_at hl 1 rfl) ?_
        refine lv_iconst (v := (1 : Int32)) hx hb dX7_read_24 (by decide) ?_
        refine lv_iadd hx hb dX7_read_25 ?_
        refine lv_iload hx hb dX7_read_26 (lv_at hl 5 rfl) ?_
        refine lv_iadd hx hb dX7_read_28 ?_
        obtain ⟨g16, hF⟩ := zgd_inv hF
        refine z_iald hx hb hK hP (zk_lt (zk_6c hq1) (by decide)) (zx_160 (zk_6c hq1)) rfl g16 dX7_read_29 ?_
        refine lv_bipush (v := (48 : Int32)) hx hb dX7_read_30 (by decide) ?_
        refine lv_isub hx hb dX7_read_32 ?_
        obtain ⟨g17, hF⟩ := zgd_inv hF
        obtain ⟨σ18, eσ18, hF⟩ := zlet_inv hF
        refine z_iast hx hb hK hP hD hS (zk_lt (zk_4w hq4) (by decide)) (fun _ => (zx_103 (zk_4w hq4))) rfl g17 dX7_read_33 (fun H locs hP hD hS => ?_)
        have hP : va_P D vwCl (zW (zx cI cS cP ad) 41 ad σ18) H := by rw [eσ18]; exact hP
        have hD : va_D A (zW (zx cI cS cP ad) 41 ad σ18) := by rw [eσ18]; exact hD
        refine lv_iinc (v := (l5 + (1 : Int32))) (lv' := [(5, .int (l5 + (1 : Int32))), (0, .ref (ad q1)), (1, .int l1), (2, .int l2), (3, .ref (ad q4)), (4, .ref (ad (q1 + 4)))]) hx hb dX7_read_34 hl (k := 5) rfl rfl (by decide) rfl (fun ls hl => ?_)
        refine lv_goto (tgt := 9) hx hb dX7_read_37 (by decide) ?_
        exact ih9 σ18 l1 l2 (l5 + (1 : Int32)) _ _ _ hF hP hD hS (lv_sub hl [1, 2, 3, 4, 5, 0] rfl)
  unfold FX7_read at hF
  refine lv_aload_n hx hb dX7_read_0 rfl (lv_at hl 0 rfl) ?_
  refine z_get (ci := 6) (C := RX6) (T := TX6) (N := 4) hx hb hts iX7_read_X6 hown hK hP (zk_lt hq1 (by decide)) (zx_6 hq1) rfl 0 (by decide) kX7_read_f9 rfl (v := .ref (ad (q1 + 4))) rfl dX7_read_1 ?_
  refine lv_astore (lv' := [(4, .ref (ad (q1 + 4))), (0, .ref (ad q1)), (1, .int p2), (2, .int p3), (3, .ref (ad q4))]) hx hb dX7_read_4 hl (by decide) rfl (fun ls hl => ?_)
  refine lv_iconst (v := (0 : Int32)) hx hb dX7_read_6 (by decide) ?_
  refine lv_istore (lv' := [(5, .int (0 : Int32)), (4, .ref (ad (q1 + 4))), (0, .ref (ad q1)), (1, .int p2), (2, .int p3), (3, .ref (ad q4))]) hx hb dX7_read_7 hl (by decide) rfl (fun ls hl => ?_)
  exact hB9 n σ p2 p3 (0 : Int32) _ _ _ hF hP hD hS (lv_sub hl [2, 3, 4, 5, 1, 0] rfl)
set_option maxHeartbeats 4000000 in
set_option maxRecDepth 100000 in
theorem CX8_isLearner (l : Launch) (D : va_G) (cI cS cP : ClassId) (ad : Nat → Nat) (A : Nat → Prop) (n : Nat) (σ σ' : zMem) (r0 : Int32) (p1 : Int32) (hF : FX8_isLearner n σ p1 = some (r0, σ')) : Met l yX8_isLearner wsX8_isLearner ({ frames := 0, cells := 0, slots := 0, locals := 0 } : Room) (va_Pc [.int p1] (zB (zx cI cS cP ad) 41 ad D (zty cI cS cP) A σ)) (va_Qi (fun r u => r = r0 ∧ u = σ') (zB (zx cI cS cP ad) 41 ad D (zty cI cS cP) A) A) 0 0 A := by
  refine Met.ofW (cc := cX8_isLearner) (maxL := 1) (ret := (some .boolean)) (by decide) rfl ?_
  intro p e s m args below meth c s₁ B hml hv
  obtain ⟨rfl, hP, hK, hD, hN⟩ := hv
  have hx := B.exec
  have hb := B.bytes
  have hr := B.returns
  have hts := atoms_spec (ws := wsX8_isLearner) B.pre
  have hown : s.vm.findClass RX8 = some m.cls := findClass_of_methodNamed B.named
  have hlocks := B.notSynchronized
  have hS : va_S A s.heap s.heap [] := va_S.rf
  have hl := lv_entry ([.int p1]) (n := 1) (Nat.le_of_ble_eq_true rfl)
  rw [lg_entry_eq]
  generalize (lg_sl ([.int p1]) ++ List.replicate (1 - (lg_sl ([.int p1])).length) Slot.unset).toArray = ls at hl ⊢
  have hl : lv_has ls 1 [(0, .int p1)] := hl
  clear B
  unfold FX8_isLearner at hF
  refine lv_iload_n hx hb dX8_isLearner_0 rfl (lv_at hl 0 rfl) ?_
  refine lv_bipush (v := (10 : Int32)) hx hb dX8_isLearner_1 (by decide) ?_
  refine lv_icmp_lt (tgt := 16) hx hb dX8_isLearner_3 (by decide) (fun b1 => ?_) (fun b1 => ?_)
  · have hF := zif_t b1 hF
    refine lv_iconst (v := (0 : Int32)) hx hb dX8_isLearner_16 (by decide) ?_
    exact z_zret hx hb hr hlocks (Or.inl rfl) hN hK hP hD hS hF dX8_isLearner_17
  · have hF := zif_f b1 hF
    refine lv_iload_n hx hb dX8_isLearner_6 rfl (lv_at hl 0 rfl) ?_
    refine lv_bipush (v := (16 : Int32)) hx hb dX8_isLearner_7 (by decide) ?_
    refine lv_icmp_ge (tgt := 16) hx hb dX8_isLearner_9 (by decide) (fun b2 => ?_) (fun b2 => ?_)
    · have hF := zif_t b2 hF
      refine lv_iconst (v := (0 : Int32)) hx hb dX8_isLearner_16 (by decide) ?_
      exact z_zret hx hb hr hlocks (Or.inl rfl) hN hK hP hD hS hF dX8_isLearner_17
    · have hF := zif_f b2 hF
      refine lv_iconst (v := (1 : Int32)) hx hb dX8_isLearner_12 (by decide) ?_
      refine lv_goto (tgt := 17) hx hb dX8_isLearner_13 (by decide) ?_
      exact z_zret hx hb hr hlocks (Or.inr rfl) hN hK hP hD hS hF dX8_isLearner_17
theorem kX8_tells_iX9 : Cond.initialized RX9 ∈ wsX8_tells := by decide +kernel
theorem kX8_tells_stX9_isBelow : Cond.static yX9_isBelow ∈ wsX8_tells := by decide +kernel
set_option maxHeartbeats 4000000 in
set_option maxRecDepth 100000 in
theorem CX8_tells (l : Launch) (D : va_G) (cI cS cP : ClassId) (ad : Nat → Nat) (A : Nat → Prop) (n : Nat) (σ σ' : zMem) (r0 : Int32) (p1 : Int32) (hF : FX8_tells n σ p1 = some (r0, σ')) : Met l yX8_tells wsX8_tells ({ frames := 1, cells := 0, slots := 0, locals := 21 } : Room) (va_Pc [.int p1] (zB (zx cI cS cP ad) 41 ad D (zty cI cS cP) A σ)) (va_Qi (fun r u => r = r0 ∧ u = σ') (zB (zx cI cS cP ad) 41 ad D (zty cI cS cP) A) A) 0 0 A := by
  refine Met.ofW (cc := cX8_tells) (maxL := 1) (ret := (some .boolean)) (by decide) rfl ?_
  intro p e s m args below meth c s₁ B hml hv
  obtain ⟨rfl, hP, hK, hD, hN⟩ := hv
  have hx := B.exec
  have hb := B.bytes
  have hr := B.returns
  have hts := atoms_spec (ws := wsX8_tells) B.pre
  have hown : s.vm.findClass RX8 = some m.cls := findClass_of_methodNamed B.named
  have hlocks := B.notSynchronized
  have hS : va_S A s.heap s.heap [] := va_S.rf
  have hl := lv_entry ([.int p1]) (n := 1) (Nat.le_of_ble_eq_true rfl)
  rw [lg_entry_eq]
  generalize (lg_sl ([.int p1]) ++ List.replicate (1 - (lg_sl ([.int p1])).length) Slot.unset).toArray = ls at hl ⊢
  have hl : lv_has ls 1 [(0, .int p1)] := hl
  clear B
  have hB15 : ∀ (σ : zMem) (l0 : Int32), ∀ (H : Heap) (locs : List Loc) (ls : Array Slot), BX8_tells_15 n σ l0 = some (r0, σ') → va_P D vwCl (zW (zx cI cS cP ad) 41 ad σ) H → va_D A (zW (zx cI cS cP ad) 41 ad σ) → va_S A s.heap H locs → lv_has ls 1 [(0, .int l0)] → W p l e (headSpec wsX8_tells ({ frames := 1, cells := 0, slots := 0, locals := 21 } : Room)).room s m ([.int p1] : List Value).toArray below meth c H locs 0 0 (MQ below (va_Qi (fun r u => r = r0 ∧ u = σ') (zB (zx cI cS cP ad) 41 ad D (zty cI cS cP) A) A) ([.int p1] : List Value).toArray s 0 0 A) (F0 m 15 ls []) := by
    intro σ l0 H locs ls hF hP hD hS hl
    unfold BX8_tells_15 at hF
    refine lv_iconst (v := (1 : Int32)) hx hb dX8_tells_15 (by decide) ?_
    refine lv_goto (tgt := 20) hx hb dX8_tells_16 (by decide) ?_
    exact z_zret hx hb hr hlocks (Or.inr rfl) hN hK hP hD hS hF dX8_tells_20
  unfold FX8_tells at hF
  refine lv_iload_n hx hb dX8_tells_0 rfl (lv_at hl 0 rfl) ?_
  refine lv_iconst (v := (5 : Int32)) hx hb dX8_tells_1 (by decide) ?_
  obtain ⟨r2, σ1, hC3, hF⟩ := zbd_inv hF
  refine z_calli (va_runSN (As := [.int p1, .int (5 : Int32)]) (rest := []) ⟨hx, hb, hml, hown, hts⟩ (CX9_isBelow l D cI cS cP ad A n σ σ1 r2 p1 (5 : Int32) hC3) ⟨va_cnB 2 hts gX8_tells_X9_isBelow_n24 rfl rfl rfl hN.2 (hts _ kX8_tells_iX9) (by decide +kernel) ⟨Nat.le_of_ble_eq_true rfl, Nat.le_of_ble_eq_true rfl⟩, hts _ kX8_tells_stX9_isBelow, trivial⟩ (z_preS hN hK hP hD) rfl rfl hl.1 rfl (lv_room (Nat.le_of_ble_eq_true rfl)) dX8_tells_2 ⟨Nat.zero_le _, Nat.zero_le _⟩) hS (fun H locs hP hD hS => ?_)
  refine lv_if_ne (tgt := 15) hx hb dX8_tells_5 (by decide) (fun b4 => ?_) (fun b4 => ?_)
  · have hF := zif_f b4 hF
    exact hB15 σ1 p1 _ _ _ hF hP hD hS (lv_sub hl [0] rfl)
  · have hF := zif_t b4 hF
    refine lv_iload_n hx hb dX8_tells_8 rfl (lv_at hl 0 rfl) ?_
    obtain ⟨r6, σ5, hC7, hF⟩ := zbd_inv hF
    refine z_calli (va_runS (As := [.int p1]) (rest := []) ⟨hx, hb, hml, hown, hts⟩ (CX8_isLearner l D cI cS cP ad A n σ1 σ5 r6 p1 hC7) (va_cwS 1 hts gX8_tells_X8_isLearner rfl rfl rfl (by decide +kernel) ⟨Nat.le_of_ble_eq_true rfl, Nat.le_of_ble_eq_true rfl⟩) (z_preS hN hK hP hD) rfl rfl hl.1 rfl (lv_room (Nat.le_of_ble_eq_true rfl)) dX8_tells_9 ⟨Nat.zero_le _, Nat.zero_le _⟩) hS (fun H locs hP hD hS => ?_)
    refine lv_if_eq (tgt := 19) hx hb dX8_tells_12 (by decide) (fun b8 => ?_) (fun b8 => ?_)
    · have hF := zif_t b8 hF
      refine lv_iconst (v := (0 : Int32)) hx hb dX8_tells_19 (by decide) ?_
      exact z_zret hx hb hr hlocks (Or.inl rfl) hN hK hP hD hS hF dX8_tells_20
    · have hF := zif_f b8 hF
      exact hB15 σ5 p1 _ _ _ hF hP hD hS (lv_sub hl [0] rfl)
theorem kX8_pairRefusal_iX9 : Cond.initialized RX9 ∈ wsX8_pairRefusal := by decide +kernel
theorem kX8_pairRefusal_stX9_isBelow : Cond.static yX9_isBelow ∈ wsX8_pairRefusal := by decide +kernel
set_option maxHeartbeats 4000000 in
set_option maxRecDepth 100000 in
theorem CX8_pairRefusal (l : Launch) (D : va_G) (cI cS cP : ClassId) (ad : Nat → Nat) (A : Nat → Prop) (n : Nat) (σ σ' : zMem) (r0 : Int32) (q3 : Nat) (p1 : Int32) (p2 : Int32) (hq3 : zk q3 = 4) (hF : FX8_pairRefusal n q3 σ p1 p2 = some (r0, σ')) : Met l yX8_pairRefusal wsX8_pairRefusal ({ frames := 2, cells := 0, slots := 0, locals := 42 } : Room) (va_Pc [.int p1, .int p2, .ref (ad q3)] (zB (zx cI cS cP ad) 41 ad D (zty cI cS cP) A σ)) (va_Qi (fun r u => r = r0 ∧ u = σ') (zB (zx cI cS cP ad) 41 ad D (zty cI cS cP) A) A) 0 0 A := by
  refine Met.ofW (cc := cX8_pairRefusal) (maxL := 3) (ret := (some .int)) (by decide) rfl ?_
  intro p e s m args below meth c s₁ B hml hv
  obtain ⟨rfl, hP, hK, hD, hN⟩ := hv
  have hx := B.exec
  have hb := B.bytes
  have hr := B.returns
  have hts := atoms_spec (ws := wsX8_pairRefusal) B.pre
  have hown : s.vm.findClass RX8 = some m.cls := findClass_of_methodNamed B.named
  have hlocks := B.notSynchronized
  have hS : va_S A s.heap s.heap [] := va_S.rf
  have hl := lv_entry ([.int p1, .int p2, .ref (ad q3)]) (n := 3) (Nat.le_of_ble_eq_true rfl)
  rw [lg_entry_eq]
  generalize (lg_sl ([.int p1, .int p2, .ref (ad q3)]) ++ List.replicate (3 - (lg_sl ([.int p1, .int p2, .ref (ad q3)])).length) Slot.unset).toArray = ls at hl ⊢
  have hl : lv_has ls 3 [(0, .int p1), (1, .int p2), (2, .ref (ad q3))] := hl
  clear B
  unfold FX8_pairRefusal at hF
  refine lv_iload_n hx hb dX8_pairRefusal_0 rfl (lv_at hl 1 rfl) ?_
  refine lv_if_ne (tgt := 18) hx hb dX8_pairRefusal_1 (by decide) (fun b1 => ?_) (fun b1 => ?_)
  · have hF := zif_f b1 hF
    refine lv_iload_n hx hb dX8_pairRefusal_18 rfl (lv_at hl 1 rfl) ?_
    refine lv_iconst (v := (1 : Int32)) hx hb dX8_pairRefusal_19 (by decide) ?_
    refine lv_icmp_ne (tgt := 37) hx hb dX8_pairRefusal_20 (by decide) (fun b2 => ?_) (fun b2 => ?_)
    · have hF := zif_f b2 hF
      refine lv_iload_n hx hb dX8_pairRefusal_37 rfl (lv_at hl 1 rfl) ?_
      obtain ⟨r4, σ3, hC5, hF⟩ := zbd_inv hF
      refine z_calli (va_runS (As := [.int p2]) (rest := []) ⟨hx, hb, hml, hown, hts⟩ (CX8_isLearner l D cI cS cP ad A n σ σ3 r4 p2 hC5) (va_cwS 1 hts gX8_pairRefusal_X8_isLearner rfl rfl rfl (by decide +kernel) ⟨Nat.le_of_ble_eq_true rfl, Nat.le_of_ble_eq_true rfl⟩) (z_preS hN hK hP hD) rfl rfl hl.1 rfl (lv_room (Nat.le_of_ble_eq_true rfl)) dX8_pairRefusal_38 ⟨Nat.zero_le _, Nat.zero_le _⟩) hS (fun H locs hP hD hS => ?_)
      refine lv_if_eq (tgt := 57) hx hb dX8_pairRefusal_41 (by decide) (fun b6 => ?_) (fun b6 => ?_)
      · have hF := zif_t b6 hF
        refine lv_bipush (v := (-2 : Int32)) hx hb dX8_pairRefusal_57 (by decide) ?_
        exact z_iret hx hb hr hlocks hN hK hP hD hS hF dX8_pairRefusal_59
      · have hF := zif_f b6 hF
        refine lv_iload_n hx hb dX8_pairRefusal_44 rfl (lv_at hl 0 rfl) ?_
        refine lv_bipush (v := (8 : Int32)) hx hb dX8_pairRefusal_45 (by decide) ?_
        obtain ⟨r8, σ7, hC9, hF⟩ := zbd_inv hF
        refine z_calli (va_runSN (As := [.int p1, .int (8 : Int32)]) (rest := []) ⟨hx, hb, hml, hown, hts⟩ (CX9_isBelow l D cI cS cP ad A n σ3 σ7 r8 p1 (8 : Int32) hC9) ⟨va_cnB 2 hts gX8_pairRefusal_X9_isBelow_n24 rfl rfl rfl hN.2 (hts _ kX8_pairRefusal_iX9) (by decide +kernel) ⟨Nat.le_of_ble_eq_true rfl, Nat.le_of_ble_eq_true rfl⟩, hts _ kX8_pairRefusal_stX9_isBelow, trivial⟩ (z_preS hN hK hP hD) rfl rfl hl.1 rfl (lv_room (Nat.le_of_ble_eq_true rfl)) dX8_pairRefusal_47 ⟨Nat.zero_le _, Nat.zero_le _⟩) hS (fun H locs hP hD hS => ?_)
        refine lv_if_eq (tgt := 57) hx hb dX8_pairRefusal_50 (by decide) (fun b10 => ?_) (fun b10 => ?_)
        · have hF := zif_t b10 hF
          refine lv_bipush (v := (-2 : Int32)) hx hb dX8_pairRefusal_57 (by decide) ?_
          exact z_iret hx hb hr hlocks hN hK hP hD hS hF dX8_pairRefusal_59
        · have hF := zif_f b10 hF
          refine lv_iconst (v := (0 : Int32)) hx hb dX8_pairRefusal_53 (by decide) ?_
          refine lv_goto (tgt := 59) hx hb dX8_pairRefusal_54 (by decide) ?_
          exact z_iret hx hb hr hlocks hN hK hP hD hS hF dX8_pairRefusal_59
    · have hF := zif_t b2 hF
      refine lv_aload_n hx hb dX8_pairRefusal_23 rfl (lv_at hl 2 rfl) ?_
      refine lv_iload_n hx hb dX8_pairRefusal_24 rfl (lv_at hl 0 rfl) ?_
      obtain ⟨r12, σ11, hC13, hF⟩ := zbd_inv hF
      refine z_calli (va_runV (As := [.int p1]) (rest := []) ⟨hx, hb, hml, hown, hts⟩ (CX4_hasPerson l D cI cS cP ad A n σ σ11 r12 q3 p1 hq3 hC13) (cwV 1 hts gX8_pairRefusal_X4_hasPerson rfl rfl rfl (by decide +kernel) ⟨Nat.le_of_ble_eq_true rfl, Nat.le_of_ble_eq_true rfl⟩) (z_preV hN hK hP hD (zk_lt hq3 (by decide)) (zx_4 hq3) rfl) rfl rfl hl.1 rfl (lv_room (Nat.le_of_ble_eq_true rfl)) dX8_pairRefusal_25 ⟨Nat.zero_le _, Nat.zero_le _⟩) hS (fun H locs hP hD hS => ?_)
      refine lv_if_eq (tgt := 35) hx hb dX8_pairRefusal_28 (by decide) (fun b14 => ?_) (fun b14 => ?_)
      · have hF := zif_t b14 hF
        refine lv_iconst (v := (-1 : Int32)) hx hb dX8_pairRefusal_35 (by decide) ?_
        exact z_iret hx hb hr hlocks hN hK hP hD hS hF dX8_pairRefusal_36
      · have hF := zif_f b14 hF
        refine lv_iconst (v := (0 : Int32)) hx hb dX8_pairRefusal_31 (by decide) ?_
        refine lv_goto (tgt := 36) hx hb dX8_pairRefusal_32 (by decide) ?_
        exact z_iret hx hb hr hlocks hN hK hP hD hS hF dX8_pairRefusal_36
  · have hF := zif_t b1 hF
    refine lv_aload_n hx hb dX8_pairRefusal_4 rfl (lv_at hl 2 rfl) ?_
    refine lv_iload_n hx hb dX8_pairRefusal_5 rfl (lv_at hl 0 rfl) ?_
    obtain ⟨r16, σ15, hC17, hF⟩ := zbd_inv hF
    refine z_calli (va_runV (As := [.int p1]) (rest := []) ⟨hx, hb, hml, hown, hts⟩ (CX4_hasMatter l D cI cS cP ad A n σ σ15 r16 q3 p1 hq3 hC17) (cwV 1 hts gX8_pairRefusal_X4_hasMatter rfl rfl rfl (by decide +kernel) ⟨Nat.le_of_ble_eq_true rfl, Nat.le_of_ble_eq_true rfl⟩) (z_preV hN hK hP hD (zk_lt hq3 (by decide)) (zx_4 hq3) rfl) rfl rfl hl.1 rfl (lv_room (Nat.le_of_ble_eq_true rfl)) dX8_pairRefusal_6 ⟨Nat.zero_le _, Nat.zero_le _⟩) hS (fun H locs hP hD hS => ?_)
    refine lv_if_eq (tgt := 16) hx hb dX8_pairRefusal_9 (by decide) (fun b18 => ?_) (fun b18 => ?_)
    · have hF := zif_t b18 hF
      refine lv_iconst (v := (-1 : Int32)) hx hb dX8_pairRefusal_16 (by decide) ?_
      exact z_iret hx hb hr hlocks hN hK hP hD hS hF dX8_pairRefusal_17
    · have hF := zif_f b18 hF
      refine lv_iconst (v := (0 : Int32)) hx hb dX8_pairRefusal_12 (by decide) ?_
      refine lv_goto (tgt := 17) hx hb dX8_pairRefusal_13 (by decide) ?_
      exact z_iret hx hb hr hlocks hN hK hP hD hS hF dX8_pairRefusal_17
