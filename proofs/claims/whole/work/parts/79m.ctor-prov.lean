/-! ===== Province() ===== -/
theorem kX4_init_0 : Cond.methodLink RX4 3 objectInit ∈ wsX4_init := by decide +kernel
theorem kX4_init_1 : Cond.instanceMethod objectInit ∈ wsX4_init := by decide +kernel
theorem kX4_init_2 : Cond.code objectInit ⟨#[0xb1]⟩ 1 none ∈ wsX4_init := by decide +kernel
theorem kX4_init_3 : Cond.arrayClass .int ∈ wsX4_init := by decide +kernel
theorem kX4_init_4 : Cond.fieldLink RX4 9 "LeastAsked$Province" "worths" "[I" ∈ wsX4_init := by decide +kernel
theorem kX4_init_5 : Cond.classLink RX4 15 RX2 ∈ wsX4_init := by decide +kernel
theorem kX4_init_6 : Cond.fieldLink RX4 17 "LeastAsked$Province" "people" "[LLeastAsked$Person;" ∈ wsX4_init := by decide +kernel
theorem kX4_init_7 : Cond.fieldLink RX4 21 "LeastAsked$Province" "count" "I" ∈ wsX4_init := by decide +kernel
theorem kX4_init_8 : Cond.instantiable RX2 4 ∈ wsX4_init := by decide +kernel
theorem kX4_init_9 : Cond.initialized RX2 ∈ wsX4_init := by decide +kernel
theorem kX4_init_10 : Cond.instanceMethod yX2_init ∈ wsX4_init := by decide +kernel
theorem iX4_init_X4 : ∀ w ∈ u_ws RX4 TX4 3, w ∈ wsX4_init := by decide +kernel
theorem iX4_init_X2 : ∀ w ∈ u_ws RX2 TX2 4, w ∈ wsX4_init := by decide +kernel
set_option maxHeartbeats 8000000 in
set_option maxRecDepth 100000 in
theorem KX4 (l : Launch) (D : va_G) (cI cS cP : ClassId) (h0 sz : Nat) : Met l yX4_init wsX4_init ({ frames := 2, cells := 8, slots := 33, locals := 32 } : Room) (va_Pc [.ref h0] (zC D (zty cI cS cP) [(h0, .inr (4, [.null, .null, .int 0]))] sz)) (va_Qv (fun u : Nat → Nat => u 0 = h0) (fun u t => va_P D vwCl [(u 0, .inr (4, [.ref (u 1), .ref (u 2), .int 0])), (u 1, .inl (cI, 3, .inl (fun _ => 0))), (u 2, .inl (cP, 6, .inr (.inr (.inr (.inr (va_up (va_up (va_up (va_up (va_up (va_up (fun _ => none) (0 : Int32).toNatClampNeg (some (u 3))) (1 : Int32).toNatClampNeg (some (u 4))) (2 : Int32).toNatClampNeg (some (u 5))) (3 : Int32).toNatClampNeg (some (u 6))) (4 : Int32).toNatClampNeg (some (u 7))) (5 : Int32).toNatClampNeg (some (u 8)))))))), (u 3, .inr (2, [.int 0, .int 0, .int 0, .int 0])), (u 4, .inr (2, [.int 0, .int 0, .int 0, .int 0])), (u 5, .inr (2, [.int 0, .int 0, .int 0, .int 0])), (u 6, .inr (2, [.int 0, .int 0, .int 0, .int 0])), (u 7, .inr (2, [.int 0, .int 0, .int 0, .int 0])), (u 8, .inr (2, [.int 0, .int 0, .int 0, .int 0]))] t.heap ∧ va_D (va_A [(h0, .inr (4, [.null, .null, .int 0]))] sz) [(u 0, .inr (4, [.ref (u 1), .ref (u 2), .int 0])), (u 1, .inl (cI, 3, .inl (fun _ => 0))), (u 2, .inl (cP, 6, .inr (.inr (.inr (.inr (va_up (va_up (va_up (va_up (va_up (va_up (fun _ => none) (0 : Int32).toNatClampNeg (some (u 3))) (1 : Int32).toNatClampNeg (some (u 4))) (2 : Int32).toNatClampNeg (some (u 5))) (3 : Int32).toNatClampNeg (some (u 6))) (4 : Int32).toNatClampNeg (some (u 7))) (5 : Int32).toNatClampNeg (some (u 8)))))))), (u 3, .inr (2, [.int 0, .int 0, .int 0, .int 0])), (u 4, .inr (2, [.int 0, .int 0, .int 0, .int 0])), (u 5, .inr (2, [.int 0, .int 0, .int 0, .int 0])), (u 6, .inr (2, [.int 0, .int 0, .int 0, .int 0])), (u 7, .inr (2, [.int 0, .int 0, .int 0, .int 0])), (u 8, .inr (2, [.int 0, .int 0, .int 0, .int 0]))]) (va_A [(h0, .inr (4, [.null, .null, .int 0]))] sz)) 8 33 (va_A [(h0, .inr (4, [.null, .null, .int 0]))] sz) := by
  refine Met.ofW (cc := cX4_init) (maxL := 2) (ret := none) (by decide) rfl ?_
  intro p e s m args below meth c s₁ B hml hv
  obtain ⟨rfl, hsz, hP, hK, hD0, hN⟩ := hv
  have hx := B.exec
  have hb := B.bytes
  have hr := B.returns
  have hts := atoms_spec (ws := wsX4_init) B.pre
  have hown : s.vm.findClass RX4 = some m.cls := findClass_of_methodNamed B.named
  have hlocks := B.notSynchronized
  have hin : meth.name = "<init>" := (name_of_methodNamed B.named B.method).1
  subst hsz
  have hD := hD0.self (sz := s.heap.size)
  generalize hAe : va_A [(h0, .inr (4, [.null, .null, .int 0]))] s.heap.size = A at hD ⊢
  have hA : ∀ q : Nat, s.heap.size ≤ q → A q := fun q h => by rw [← hAe]; exact Or.inr h
  have hS : va_S A s.heap s.heap [] := va_S.rf
  have hl := lv_entry ([.ref h0]) (n := 2) (Nat.le_of_ble_eq_true rfl)
  rw [lg_entry_eq]
  generalize (lg_sl ([.ref h0]) ++ List.replicate (2 - (lg_sl ([.ref h0])).length) Slot.unset).toArray = ls at hl ⊢
  have hl : lv_has ls 2 [(0, .ref h0)] := hl
  clear B hAe hD0
  refine lv_aload_n hx hb dX4_init_0 rfl (lv_at hl 0 rfl) ?_
  refine W.objInit hx hb hown (hts _ kX4_init_0) (hts _ kX4_init_1) (hts _ kX4_init_2) rfl (by rw [hml]; exact hl.1) rfl dX4_init_1 (Nat.le_of_ble_eq_true rfl) (Nat.le_of_ble_eq_true rfl) ?_
  refine W.eq (g2 := F0 m 4 ls []) rfl ?_
  refine lv_aload_n hx hb dX4_init_4 rfl (lv_at hl 0 rfl) ?_
  refine lv_iconst (v := (3 : Int32)) hx hb dX4_init_5 (by decide) ?_
  refine z_newi hx hb (hts _ kX4_init_3) hK rfl hP hD hS hA (N' := 3) (by decide) (by decide) (Nat.le_of_ble_eq_true rfl) (Nat.le_of_ble_eq_true rfl) (Nat.le_of_ble_eq_true rfl) dX4_init_6 (fun q1 H hP hD hS => ?_)
  have hP : va_P D vwCl [(h0, .inr (4, [.null, .null, .int 0])), (q1, .inl (cI, 3, .inl (fun _ => 0)))] H := hP
  have hD : va_D A [(h0, .inr (4, [.null, .null, .int 0])), (q1, .inl (cI, 3, .inl (fun _ => 0)))] := hD
  refine W.widen (k := 1) (n := 3) (Nat.le_of_ble_eq_true rfl) (Nat.le_of_ble_eq_true rfl) ?_
  refine va_putF (ci := 4) (C := RX4) (T := TX4) (N := 3) hx hb hts iX4_init_X4 tyX4 tyX4_ok nmX4 hown hK hP hD hS 0 rfl rfl 0 (by decide) (hts _ kX4_init_4) (fun _ h => h) rfl hin rfl (tyX4_ok 0 (by decide)) (v := .ref q1) rfl rfl (Nat.le_of_ble_eq_true rfl) dX4_init_8 (fun H locs hP hD hS => ?_)
  have hP : va_P D vwCl [(h0, .inr (4, [.ref q1, .null, .int 0])), (q1, .inl (cI, 3, .inl (fun _ => 0)))] H := hP
  have hD : va_D A [(h0, .inr (4, [.ref q1, .null, .int 0])), (q1, .inl (cI, 3, .inl (fun _ => 0)))] := hD
  refine lv_aload_n hx hb dX4_init_11 rfl (lv_at hl 0 rfl) ?_
  refine lv_bipush (v := (6 : Int32)) hx hb dX4_init_12 (by decide) ?_
  refine z_newo (t0 := 2) (C := RX2) hx hb hown (hts _ kX4_init_5) hN.aoX2 hK rfl hP hD hS hA (N' := 6) (by decide) (by decide) (Nat.le_of_ble_eq_true rfl) (Nat.le_of_ble_eq_true rfl) (Nat.le_of_ble_eq_true rfl) dX4_init_14 (fun q2 H hP hD hS => ?_)
  have hP : va_P D vwCl [(h0, .inr (4, [.ref q1, .null, .int 0])), (q1, .inl (cI, 3, .inl (fun _ => 0))), (q2, .inl (cP, 6, .inr (.inr (.inr (.inr (fun _ => none))))))] H := hP
  have hD : va_D A [(h0, .inr (4, [.ref q1, .null, .int 0])), (q1, .inl (cI, 3, .inl (fun _ => 0))), (q2, .inl (cP, 6, .inr (.inr (.inr (.inr (fun _ => none))))))] := hD
  refine W.widen (k := 2) (n := 9) (Nat.le_of_ble_eq_true rfl) (Nat.le_of_ble_eq_true rfl) ?_
  refine va_putF (ci := 4) (C := RX4) (T := TX4) (N := 3) hx hb hts iX4_init_X4 tyX4 tyX4_ok nmX4 hown hK hP hD hS 0 rfl rfl 1 (by decide) (hts _ kX4_init_6) (fun _ h => h) rfl hin rfl (tyX4_ok 1 (by decide)) (v := .ref q2) rfl rfl (Nat.le_of_ble_eq_true rfl) dX4_init_17 (fun H locs hP hD hS => ?_)
  have hP : va_P D vwCl [(h0, .inr (4, [.ref q1, .ref q2, .int 0])), (q1, .inl (cI, 3, .inl (fun _ => 0))), (q2, .inl (cP, 6, .inr (.inr (.inr (.inr (fun _ => none))))))] H := hP
  have hD : va_D A [(h0, .inr (4, [.ref q1, .ref q2, .int 0])), (q1, .inl (cI, 3, .inl (fun _ => 0))), (q2, .inl (cP, 6, .inr (.inr (.inr (.inr (fun _ => none))))))] := hD
  refine lv_aload_n hx hb dX4_init_20 rfl (lv_at hl 0 rfl) ?_
  refine lv_iconst (v := (0 : Int32)) hx hb dX4_init_21 (by decide) ?_
  refine va_put (ci := 4) (C := RX4) (T := TX4) (N := 3) hx hb hts iX4_init_X4 tyX4 tyX4_ok nmX4 hown hK hP hD hS 0 rfl rfl 2 (by decide) (hts _ kX4_init_7) (fun _ h => h) rfl (tyX4_ok 2 (by decide)) (v := .int (0)) (by first | rfl | decide) (by first | rfl | decide) (Nat.le_of_ble_eq_true rfl) dX4_init_22 (fun H locs hP hD hS => ?_)
  have hP : va_P D vwCl [(h0, .inr (4, [.ref q1, .ref q2, .int 0])), (q1, .inl (cI, 3, .inl (fun _ => 0))), (q2, .inl (cP, 6, .inr (.inr (.inr (.inr (fun _ => none))))))] H := hP
  have hD : va_D A [(h0, .inr (4, [.ref q1, .ref q2, .int 0])), (q1, .inl (cI, 3, .inl (fun _ => 0))), (q2, .inl (cP, 6, .inr (.inr (.inr (.inr (fun _ => none))))))] := hD
  refine lv_iconst (v := (0 : Int32)) hx hb dX4_init_25 (by decide) ?_
  refine lv_istore_n (lv' := [(1, .int (0)), (0, .ref h0)]) hx hb dX4_init_26 rfl hl (by decide) rfl (fun ls hl => ?_)
  refine lv_iload_n hx hb dX4_init_27 rfl (lv_at hl 0 rfl) ?_
  refine lv_bipush (v := (6 : Int32)) hx hb dX4_init_28 (by decide) ?_
  refine lv_icmp_ge (tgt := 52) hx hb dX4_init_30 (by decide) (fun z => absurd z (by decide)) (fun _ => ?_)
  refine lv_aload_n hx hb dX4_init_33 rfl (lv_at hl 1 rfl) ?_
  refine va_get (ci := 4) (C := RX4) (T := TX4) (N := 3) hx hb hts iX4_init_X4 hown hK hP 0 rfl rfl 1 (by decide) (hts _ kX4_init_6) (fun _ h => h) (v := .ref q2) rfl dX4_init_34 ?_
  refine lv_iload_n hx hb dX4_init_37 rfl (lv_at hl 0 rfl) ?_
  refine va_new (ci := 2) (fs := [.int 0, .int 0, .int 0, .int 0]) (C := RX2) (T := TX2) (N := 4) hx hb hts iX4_init_X2 tyX2 tyX2_ok hown (hts _ kX4_init_5) (hts _ kX4_init_8) (hts _ kX4_init_9) hK hP hD hS hA rfl (by decide) (Nat.le_of_ble_eq_true rfl) (Nat.le_of_ble_eq_true rfl) dX4_init_38 (fun q3 H hP hD hS => ?_)
  have hP : va_P D vwCl [(h0, .inr (4, [.ref q1, .ref q2, .int 0])), (q1, .inl (cI, 3, .inl (fun _ => 0))), (q2, .inl (cP, 6, .inr (.inr (.inr (.inr (fun _ => none)))))), (q3, .inr (2, [.int 0, .int 0, .int 0, .int 0]))] H := hP
  have hD : va_D A [(h0, .inr (4, [.ref q1, .ref q2, .int 0])), (q1, .inl (cI, 3, .inl (fun _ => 0))), (q2, .inl (cP, 6, .inr (.inr (.inr (.inr (fun _ => none)))))), (q3, .inr (2, [.int 0, .int 0, .int 0, .int 0]))] := hD
  refine W.widen (k := 3) (n := 13) (Nat.le_of_ble_eq_true rfl) (Nat.le_of_ble_eq_true rfl) ?_
  refine lv_dup hx hb dX4_init_41 rfl ?_
  have hPc := hP.sub (ws' := [(q3, .inr (2, [.int 0, .int 0, .int 0, .int 0]))]) [3] rfl
  have hDc := hD.sub (ws' := [(q3, .inr (2, [.int 0, .int 0, .int 0, .int 0]))]) [3] (by decide) rfl
  have hFc := va_free (wc := [(q3, .inr (2, [.int 0, .int 0, .int 0, .int 0]))]) hD hS hA [3] rfl
  refine va_callv (va_runIN (As := []) (rest := [.ref q3, .int (0), .ref q2]) ⟨hx, hb, hml, hown, hts⟩ (KX2 l D cI cS cP q3 H.size) ⟨va_cnB 0 hts gX4_init_X2_init_n25 rfl rfl rfl hN.nX4_25 (hts _ kX4_init_9) (by decide +kernel) ⟨Nat.le_of_ble_eq_true rfl, Nat.le_of_ble_eq_true rfl⟩, rfl, (hts _ kX4_init_10)⟩ (z_preC hN hK hPc hDc) rfl rfl hl.1 rfl (lv_room (Nat.le_of_ble_eq_true rfl)) dX4_init_42 ⟨Nat.le_of_ble_eq_true rfl, Nat.le_of_ble_eq_true rfl⟩) hS (fun q _ h => hFc q h) hFc (fun u t H1 locs ht hvm hw hB hz1 hk1 hS => ?_)
  obtain ⟨hP1, hD1⟩ := hB
  rw [ht] at hP1
  rw [hw] at hP1 hD1
  obtain ⟨hP, hD⟩ := va_join (wr := [(h0, .inr (4, [.ref q1, .ref q2, .int 0])), (q1, .inl (cI, 3, .inl (fun _ => 0))), (q2, .inl (cP, 6, .inr (.inr (.inr (.inr (fun _ => none))))))]) (w1 := [(q3, .inr (2, [.int 0, .int 0, .int 0, .int 0]))]) hP hD [3] [0, 1, 2] rfl rfl (by decide) (by decide) hk1 hFc hP1 hD1
  generalize H1 = H at hP hS ⊢
  clear hPc hDc hFc hP1 hD1 hk1 hz1 hw ht hvm
  have hP : va_P D vwCl [(h0, .inr (4, [.ref q1, .ref q2, .int 0])), (q1, .inl (cI, 3, .inl (fun _ => 0))), (q2, .inl (cP, 6, .inr (.inr (.inr (.inr (fun _ => none)))))), (q3, .inr (2, [.int 0, .int 0, .int 0, .int 0]))] H := hP
  have hD : va_D A [(h0, .inr (4, [.ref q1, .ref q2, .int 0])), (q1, .inl (cI, 3, .inl (fun _ => 0))), (q2, .inl (cP, 6, .inr (.inr (.inr (.inr (fun _ => none)))))), (q3, .inr (2, [.int 0, .int 0, .int 0, .int 0]))] := hD
  refine W.widen (k := 3) (n := 13) (Nat.le_of_ble_eq_true rfl) (Nat.le_of_ble_eq_true rfl) ?_
  refine va_astq hx hb hK hP hD hS 2 2 3 2 rfl rfl rfl rfl (i := (0 : Int32)) (show ¬ ((0 : Int32) < 0 ∨ 6 ≤ (0 : Int32).toNatClampNeg) by decide) dX4_init_45 (fun H locs hP hD hS => ?_)
  have hP : va_P D vwCl [(h0, .inr (4, [.ref q1, .ref q2, .int 0])), (q1, .inl (cI, 3, .inl (fun _ => 0))), (q2, .inl (cP, 6, .inr (.inr (.inr (.inr (va_up (fun _ => none) (0 : Int32).toNatClampNeg (some q3))))))), (q3, .inr (2, [.int 0, .int 0, .int 0, .int 0]))] H := hP
  have hD : va_D A [(h0, .inr (4, [.ref q1, .ref q2, .int 0])), (q1, .inl (cI, 3, .inl (fun _ => 0))), (q2, .inl (cP, 6, .inr (.inr (.inr (.inr (va_up (fun _ => none) (0 : Int32).toNatClampNeg (some q3))))))), (q3, .inr (2, [.int 0, .int 0, .int 0, .int 0]))] := hD
  refine lv_iinc (v := (1 : Int32)) (lv' := [(1, .int (1)), (0, .ref h0)]) hx hb dX4_init_46 hl (k := 0) rfl (by decide) (by decide) rfl (fun ls hl => ?_)
  refine lv_goto (tgt := 27) hx hb dX4_init_49 (by decide) ?_
  refine lv_iload_n hx hb dX4_init_27 rfl (lv_at hl 0 rfl) ?_
  refine lv_bipush (v := (6 : Int32)) hx hb dX4_init_28 (by decide) ?_
  refine lv_icmp_ge (tgt := 52) hx hb dX4_init_30 (by decide) (fun z => absurd z (by decide)) (fun _ => ?_)
  refine lv_aload_n hx hb dX4_init_33 rfl (lv_at hl 1 rfl) ?_
  refine va_get (ci := 4) (C := RX4) (T := TX4) (N := 3) hx hb hts iX4_init_X4 hown hK hP 0 rfl rfl 1 (by decide) (hts _ kX4_init_6) (fun _ h => h) (v := .ref q2) rfl dX4_init_34 ?_
  refine lv_iload_n hx hb dX4_init_37 rfl (lv_at hl 0 rfl) ?_
  refine va_new (ci := 2) (fs := [.int 0, .int 0, .int 0, .int 0]) (C := RX2) (T := TX2) (N := 4) hx hb hts iX4_init_X2 tyX2 tyX2_ok hown (hts _ kX4_init_5) (hts _ kX4_init_8) (hts _ kX4_init_9) hK hP hD hS hA rfl (by decide) (Nat.le_of_ble_eq_true rfl) (Nat.le_of_ble_eq_true rfl) dX4_init_38 (fun q4 H hP hD hS => ?_)
  have hP : va_P D vwCl [(h0, .inr (4, [.ref q1, .ref q2, .int 0])), (q1, .inl (cI, 3, .inl (fun _ => 0))), (q2, .inl (cP, 6, .inr (.inr (.inr (.inr (va_up (fun _ => none) (0 : Int32).toNatClampNeg (some q3))))))), (q3, .inr (2, [.int 0, .int 0, .int 0, .int 0])), (q4, .inr (2, [.int 0, .int 0, .int 0, .int 0]))] H := hP
  have hD : va_D A [(h0, .inr (4, [.ref q1, .ref q2, .int 0])), (q1, .inl (cI, 3, .inl (fun _ => 0))), (q2, .inl (cP, 6, .inr (.inr (.inr (.inr (va_up (fun _ => none) (0 : Int32).toNatClampNeg (some q3))))))), (q3, .inr (2, [.int 0, .int 0, .int 0, .int 0])), (q4, .inr (2, [.int 0, .int 0, .int 0, .int 0]))] := hD
  refine W.widen (k := 4) (n := 17) (Nat.le_of_ble_eq_true rfl) (Nat.le_of_ble_eq_true rfl) ?_
  refine lv_dup hx hb dX4_init_41 rfl ?_
  have hPc := hP.sub (ws' := [(q4, .inr (2, [.int 0, .int 0, .int 0, .int 0]))]) [4] rfl
  have hDc := hD.sub (ws' := [(q4, .inr (2, [.int 0, .int 0, .int 0, .int 0]))]) [4] (by decide) rfl
  have hFc := va_free (wc := [(q4, .inr (2, [.int 0, .int 0, .int 0, .int 0]))]) hD hS hA [4] rfl
  refine va_callv (va_runIN (As := []) (rest := [.ref q4, .int (1), .ref q2]) ⟨hx, hb, hml, hown, hts⟩ (KX2 l D cI cS cP q4 H.size) ⟨va_cnB 0 hts gX4_init_X2_init_n25 rfl rfl rfl hN.nX4_25 (hts _ kX4_init_9) (by decide +kernel) ⟨Nat.le_of_ble_eq_true rfl, Nat.le_of_ble_eq_true rfl⟩, rfl, (hts _ kX4_init_10)⟩ (z_preC hN hK hPc hDc) rfl rfl hl.1 rfl (lv_room (Nat.le_of_ble_eq_true rfl)) dX4_init_42 ⟨Nat.le_of_ble_eq_true rfl, Nat.le_of_ble_eq_true rfl⟩) hS (fun q _ h => hFc q h) hFc (fun u t H1 locs ht hvm hw hB hz1 hk1 hS => ?_)
  obtain ⟨hP1, hD1⟩ := hB
  rw [ht] at hP1
  rw [hw] at hP1 hD1
  obtain ⟨hP, hD⟩ := va_join (wr := [(h0, .inr (4, [.ref q1, .ref q2, .int 0])), (q1, .inl (cI, 3, .inl (fun _ => 0))), (q2, .inl (cP, 6, .inr (.inr (.inr (.inr (va_up (fun _ => none) (0 : Int32).toNatClampNeg (some q3))))))), (q3, .inr (2, [.int 0, .int 0, .int 0, .int 0]))]) (w1 := [(q4, .inr (2, [.int 0, .int 0, .int 0, .int 0]))]) hP hD [4] [0, 1, 2, 3] rfl rfl (by decide) (by decide) hk1 hFc hP1 hD1
  generalize H1 = H at hP hS ⊢
  clear hPc hDc hFc hP1 hD1 hk1 hz1 hw ht hvm
  have hP : va_P D vwCl [(h0, .inr (4, [.ref q1, .ref q2, .int 0])), (q1, .inl (cI, 3, .inl (fun _ => 0))), (q2, .inl (cP, 6, .inr (.inr (.inr (.inr (va_up (fun _ => none) (0 : Int32).toNatClampNeg (some q3))))))), (q3, .inr (2, [.int 0, .int 0, .int 0, .int 0])), (q4, .inr (2, [.int 0, .int 0, .int 0, .int 0]))] H := hP
  have hD : va_D A [(h0, .inr (4, [.ref q1, .ref q2, .int 0])), (q1, .inl (cI, 3, .inl (fun _ => 0))), (q2, .inl (cP, 6, .inr (.inr (.inr (.inr (va_up (fun _ => none) (0 : Int32).toNatClampNeg (some q3))))))), (q3, .inr (2, [.int 0, .int 0, .int 0, .int 0])), (q4, .inr (2, [.int 0, .int 0, .int 0, .int 0]))] := hD
  refine W.widen (k := 4) (n := 17) (Nat.le_of_ble_eq_true rfl) (Nat.le_of_ble_eq_true rfl) ?_
  refine va_astq hx hb hK hP hD hS 2 2 4 2 rfl rfl rfl rfl (i := (1 : Int32)) (show ¬ ((1 : Int32) < 0 ∨ 6 ≤ (1 : Int32).toNatClampNeg) by decide) dX4_init_45 (fun H locs hP hD hS => ?_)
  have hP : va_P D vwCl [(h0, .inr (4, [.ref q1, .ref q2, .int 0])), (q1, .inl (cI, 3, .inl (fun _ => 0))), (q2, .inl (cP, 6, .inr (.inr (.inr (.inr (va_up (va_up (fun _ => none) (0 : Int32).toNatClampNeg (some q3)) (1 : Int32).toNatClampNeg (some q4))))))), (q3, .inr (2, [.int 0, .int 0, .int 0, .int 0])), (q4, .inr (2, [.int 0, .int 0, .int 0, .int 0]))] H := hP
  have hD : va_D A [(h0, .inr (4, [.ref q1, .ref q2, .int 0])), (q1, .inl (cI, 3, .inl (fun _ => 0))), (q2, .inl (cP, 6, .inr (.inr (.inr (.inr (va_up (va_up (fun _ => none) (0 : Int32).toNatClampNeg (some q3)) (1 : Int32).toNatClampNeg (some q4))))))), (q3, .inr (2, [.int 0, .int 0, .int 0, .int 0])), (q4, .inr (2, [.int 0, .int 0, .int 0, .int 0]))] := hD
  refine lv_iinc (v := (2 : Int32)) (lv' := [(1, .int (2)), (0, .ref h0)]) hx hb dX4_init_46 hl (k := 0) rfl (by decide) (by decide) rfl (fun ls hl => ?_)
  refine lv_goto (tgt := 27) hx hb dX4_init_49 (by decide) ?_
  refine lv_iload_n hx hb dX4_init_27 rfl (lv_at hl 0 rfl) ?_
  refine lv_bipush (v := (6 : Int32)) hx hb dX4_init_28 (by decide) ?_
  refine lv_icmp_ge (tgt := 52) hx hb dX4_init_30 (by decide) (fun z => absurd z (by decide)) (fun _ => ?_)
  refine lv_aload_n hx hb dX4_init_33 rfl (lv_at hl 1 rfl) ?_
  refine va_get (ci := 4) (C := RX4) (T := TX4) (N := 3) hx hb hts iX4_init_X4 hown hK hP 0 rfl rfl 1 (by decide) (hts _ kX4_init_6) (fun _ h => h) (v := .ref q2) rfl dX4_init_34 ?_
  refine lv_iload_n hx hb dX4_init_37 rfl (lv_at hl 0 rfl) ?_
  refine va_new (ci := 2) (fs := [.int 0, .int 0, .int 0, .int 0]) (C := RX2) (T := TX2) (N := 4) hx hb hts iX4_init_X2 tyX2 tyX2_ok hown (hts _ kX4_init_5) (hts _ kX4_init_8) (hts _ kX4_init_9) hK hP hD hS hA rfl (by decide) (Nat.le_of_ble_eq_true rfl) (Nat.le_of_ble_eq_true rfl) dX4_init_38 (fun q5 H hP hD hS => ?_)
  have hP : va_P D vwCl [(h0, .inr (4, [.ref q1, .ref q2, .int 0])), (q1, .inl (cI, 3, .inl (fun _ => 0))), (q2, .inl (cP, 6, .inr (.inr (.inr (.inr (va_up (va_up (fun _ => none) (0 : Int32).toNatClampNeg (some q3)) (1 : Int32).toNatClampNeg (some q4))))))), (q3, .inr (2, [.int 0, .int 0, .int 0, .int 0])), (q4, .inr (2, [.int 0, .int 0, .int 0, .int 0])), (q5, .inr (2, [.int 0, .int 0, .int 0, .int 0]))] H := hP
  have hD : va_D A [(h0, .inr (4, [.ref q1, .ref q2, .int 0])), (q1, .inl (cI, 3, .inl (fun _ => 0))), (q2, .inl (cP, 6, .inr (.inr (.inr (.inr (va_up (va_up (fun _ => none) (0 : Int32).toNatClampNeg (some q3)) (1 : Int32).toNatClampNeg (some q4))))))), (q3, .inr (2, [.int 0, .int 0, .int 0, .int 0])), (q4, .inr (2, [.int 0, .int 0, .int 0, .int 0])), (q5, .inr (2, [.int 0, .int 0, .int 0, .int 0]))] := hD
  refine W.widen (k := 5) (n := 21) (Nat.le_of_ble_eq_true rfl) (Nat.le_of_ble_eq_true rfl) ?_
  refine lv_dup hx hb dX4_init_41 rfl ?_
  have hPc := hP.sub (ws' := [(q5, .inr (2, [.int 0, .int 0, .int 0, .int 0]))]) [5] rfl
  have hDc := hD.sub (ws' := [(q5, .inr (2, [.int 0, .int 0, .int 0, .int 0]))]) [5] (by decide) rfl
  have hFc := va_free (wc := [(q5, .inr (2, [.int 0, .int 0, .int 0, .int 0]))]) hD hS hA [5] rfl
  refine va_callv (va_runIN (As := []) (rest := [.ref q5, .int (2), .ref q2]) ⟨hx, hb, hml, hown, hts⟩ (KX2 l D cI cS cP q5 H.size) ⟨va_cnB 0 hts gX4_init_X2_init_n25 rfl rfl rfl hN.nX4_25 (hts _ kX4_init_9) (by decide +kernel) ⟨Nat.le_of_ble_eq_true rfl, Nat.le_of_ble_eq_true rfl⟩, rfl, (hts _ kX4_init_10)⟩ (z_preC hN hK hPc hDc) rfl rfl hl.1 rfl (lv_room (Nat.le_of_ble_eq_true rfl)) dX4_init_42 ⟨Nat.le_of_ble_eq_true rfl, Nat.le_of_ble_eq_true rfl⟩) hS (fun q _ h => hFc q h) hFc (fun u t H1 locs ht hvm hw hB hz1 hk1 hS => ?_)
  obtain ⟨hP1, hD1⟩ := hB
  rw [ht] at hP1
  rw [hw] at hP1 hD1
  obtain ⟨hP, hD⟩ := va_join (wr := [(h0, .inr (4, [.ref q1, .ref q2, .int 0])), (q1, .inl (cI, 3, .inl (fun _ => 0))), (q2, .inl (cP, 6, .inr (.inr (.inr (.inr (va_up (va_up (fun _ => none) (0 : Int32).toNatClampNeg (some q3)) (1 : Int32).toNatClampNeg (some q4))))))), (q3, .inr (2, [.int 0, .int 0, .int 0, .int 0])), (q4, .inr (2, [.int 0, .int 0, .int 0, .int 0]))]) (w1 := [(q5, .inr (2, [.int 0, .int 0, .int 0, .int 0]))]) hP hD [5] [0, 1, 2, 3, 4] rfl rfl (by decide) (by decide) hk1 hFc hP1 hD1
  generalize H1 = H at hP hS ⊢
  clear hPc hDc hFc hP1 hD1 hk1 hz1 hw ht hvm
  have hP : va_P D vwCl [(h0, .inr (4, [.ref q1, .ref q2, .int 0])), (q1, .inl (cI, 3, .inl (fun _ => 0))), (q2, .inl (cP, 6, .inr (.inr (.inr (.inr (va_up (va_up (fun _ => none) (0 : Int32).toNatClampNeg (some q3)) (1 : Int32).toNatClampNeg (some q4))))))), (q3, .inr (2, [.int 0, .int 0, .int 0, .int 0])), (q4, .inr (2, [.int 0, .int 0, .int 0, .int 0])), (q5, .inr (2, [.int 0, .int 0, .int 0, .int 0]))] H := hP
  have hD : va_D A [(h0, .inr (4, [.ref q1, .ref q2, .int 0])), (q1, .inl (cI, 3, .inl (fun _ => 0))), (q2, .inl (cP, 6, .inr (.inr (.inr (.inr (va_up (va_up (fun _ => none) (0 : Int32).toNatClampNeg (some q3)) (1 : Int32).toNatClampNeg (some q4))))))), (q3, .inr (2, [.int 0, .int 0, .int 0, .int 0])), (q4, .inr (2, [.int 0, .int 0, .int 0, .int 0])), (q5, .inr (2, [.int 0, .int 0, .int 0, .int 0]))] := hD
  refine W.widen (k := 5) (n := 21) (Nat.le_of_ble_eq_true rfl) (Nat.le_of_ble_eq_true rfl) ?_
  refine va_astq hx hb hK hP hD hS 2 2 5 2 rfl rfl rfl rfl (i := (2 : Int32)) (show ¬ ((2 : Int32) < 0 ∨ 6 ≤ (2 : Int32).toNatClampNeg) by decide) dX4_init_45 (fun H locs hP hD hS => ?_)
  have hP : va_P D vwCl [(h0, .inr (4, [.ref q1, .ref q2, .int 0])), (q1, .inl (cI, 3, .inl (fun _ => 0))), (q2, .inl (cP, 6, .inr (.inr (.inr (.inr (va_up (va_up (va_up (fun _ => none) (0 : Int32).toNatClampNeg (some q3)) (1 : Int32).toNatClampNeg (some q4)) (2 : Int32).toNatClampNeg (some q5))))))), (q3, .inr (2, [.int 0, .int 0, .int 0, .int 0])), (q4, .inr (2, [.int 0, .int 0, .int 0, .int 0])), (q5, .inr (2, [.int 0, .int 0, .int 0, .int 0]))] H := hP
  have hD : va_D A [(h0, .inr (4, [.ref q1, .ref q2, .int 0])), (q1, .inl (cI, 3, .inl (fun _ => 0))), (q2, .inl (cP, 6, .inr (.inr (.inr (.inr (va_up (va_up (va_up (fun _ => none) (0 : Int32).toNatClampNeg (some q3)) (1 : Int32).toNatClampNeg (some q4)) (2 : Int32).toNatClampNeg (some q5))))))), (q3, .inr (2, [.int 0, .int 0, .int 0, .int 0])), (q4, .inr (2, [.int 0, .int 0, .int 0, .int 0])), (q5, .inr (2, [.int 0, .int 0, .int 0, .int 0]))] := hD
  refine lv_iinc (v := (3 : Int32)) (lv' := [(1, .int (3)), (0, .ref h0)]) hx hb dX4_init_46 hl (k := 0) rfl (by decide) (by decide) rfl (fun ls hl => ?_)
  refine lv_goto (tgt := 27) hx hb dX4_init_49 (by decide) ?_
  refine lv_iload_n hx hb dX4_init_27 rfl (lv_at hl 0 rfl) ?_
  refine lv_bipush (v := (6 : Int32)) hx hb dX4_init_28 (by decide) ?_
  refine lv_icmp_ge (tgt := 52) hx hb dX4_init_30 (by decide) (fun z => absurd z (by decide)) (fun _ => ?_)
  refine lv_aload_n hx hb dX4_init_33 rfl (lv_at hl 1 rfl) ?_
  refine va_get (ci := 4) (C := RX4) (T := TX4) (N := 3) hx hb hts iX4_init_X4 hown hK hP 0 rfl rfl 1 (by decide) (hts _ kX4_init_6) (fun _ h => h) (v := .ref q2) rfl dX4_init_34 ?_
  refine lv_iload_n hx hb dX4_init_37 rfl (lv_at hl 0 rfl) ?_
  refine va_new (ci := 2) (fs := [.int 0, .int 0, .int 0, .int 0]) (C := RX2) (T := TX2) (N := 4) hx hb hts iX4_init_X2 tyX2 tyX2_ok hown (hts _ kX4_init_5) (hts _ kX4_init_8) (hts _ kX4_init_9) hK hP hD hS hA rfl (by decide) (Nat.le_of_ble_eq_true rfl) (Nat.le_of_ble_eq_true rfl) dX4_init_38 (fun q6 H hP hD hS => ?_)
  have hP : va_P D vwCl [(h0, .inr (4, [.ref q1, .ref q2, .int 0])), (q1, .inl (cI, 3, .inl (fun _ => 0))), (q2, .inl (cP, 6, .inr (.inr (.inr (.inr (va_up (va_up (va_up (fun _ => none) (0 : Int32).toNatClampNeg (some q3)) (1 : Int32).toNatClampNeg (some q4)) (2 : Int32).toNatClampNeg (some q5))))))), (q3, .inr (2, [.int 0, .int 0, .int 0, .int 0])), (q4, .inr (2, [.int 0, .int 0, .int 0, .int 0])), (q5, .inr (2, [.int 0, .int 0, .int 0, .int 0])), (q6, .inr (2, [.int 0, .int 0, .int 0, .int 0]))] H := hP
  have hD : va_D A [(h0, .inr (4, [.ref q1, .ref q2, .int 0])), (q1, .inl (cI, 3, .inl (fun _ => 0))), (q2, .inl (cP, 6, .inr (.inr (.inr (.inr (va_up (va_up (va_up (fun _ => none) (0 : Int32).toNatClampNeg (some q3)) (1 : Int32).toNatClampNeg (some q4)) (2 : Int32).toNatClampNeg (some q5))))))), (q3, .inr (2, [.int 0, .int 0, .int 0, .int 0])), (q4, .inr (2, [.int 0, .int 0, .int 0, .int 0])), (q5, .inr (2, [.int 0, .int 0, .int 0, .int 0])), (q6, .inr (2, [.int 0, .int 0, .int 0, .int 0]))] := hD
  refine W.widen (k := 6) (n := 25) (Nat.le_of_ble_eq_true rfl) (Nat.le_of_ble_eq_true rfl) ?_
  refine lv_dup hx hb dX4_init_41 rfl ?_
  have hPc := hP.sub (ws' := [(q6, .inr (2, [.int 0, .int 0, .int 0, .int 0]))]) [6] rfl
  have hDc := hD.sub (ws' := [(q6, .inr (2, [.int 0, .int 0, .int 0, .int 0]))]) [6] (by decide) rfl
  have hFc := va_free (wc := [(q6, .inr (2, [.int 0, .int 0, .int 0, .int 0]))]) hD hS hA [6] rfl
  refine va_callv (va_runIN (As := []) (rest := [.ref q6, .int (3), .ref q2]) ⟨hx, hb, hml, hown, hts⟩ (KX2 l D cI cS cP q6 H.size) ⟨va_cnB 0 hts gX4_init_X2_init_n25 rfl rfl rfl hN.nX4_25 (hts _ kX4_init_9) (by decide +kernel) ⟨Nat.le_of_ble_eq_true rfl, Nat.le_of_ble_eq_true rfl⟩, rfl, (hts _ kX4_init_10)⟩ (z_preC hN hK hPc hDc) rfl rfl hl.1 rfl (lv_room (Nat.le_of_ble_eq_true rfl)) dX4_init_42 ⟨Nat.le_of_ble_eq_true rfl, Nat.le_of_ble_eq_true rfl⟩) hS (fun q _ h => hFc q h) hFc (fun u t H1 locs ht hvm hw hB hz1 hk1 hS => ?_)
  obtain ⟨hP1, hD1⟩ := hB
  rw [ht] at hP1
  rw [hw] at hP1 hD1
  obtain ⟨hP, hD⟩ := va_join (wr := [(h0, .inr (4, [.ref q1, .ref q2, .int 0])), (q1, .inl (cI, 3, .inl (fun _ => 0))), (q2, .inl (cP, 6, .inr (.inr (.inr (.inr (va_up (va_up (va_up (fun _ => none) (0 : Int32).toNatClampNeg (some q3)) (1 : Int32).toNatClampNeg (some q4)) (2 : Int32).toNatClampNeg (some q5))))))), (q3, .inr (2, [.int 0, .int 0, .int 0, .int 0])), (q4, .inr (2, [.int 0, .int 0, .int 0, .int 0])), (q5, .inr (2, [.int 0, .int 0, .int 0, .int 0]))]) (w1 := [(q6, .inr (2, [.int 0, .int 0, .int 0, .int 0]))]) hP hD [6] [0, 1, 2, 3, 4, 5] rfl rfl (by decide) (by decide) hk1 hFc hP1 hD1
  generalize H1 = H at hP hS ⊢
  clear hPc hDc hFc hP1 hD1 hk1 hz1 hw ht hvm
  have hP : va_P D vwCl [(h0, .inr (4, [.ref q1, .ref q2, .int 0])), (q1, .inl (cI, 3, .inl (fun _ => 0))), (q2, .inl (cP, 6, .inr (.inr (.inr (.inr (va_up (va_up (va_up (fun _ => none) (0 : Int32).toNatClampNeg (some q3)) (1 : Int32).toNatClampNeg (some q4)) (2 : Int32).toNatClampNeg (some q5))))))), (q3, .inr (2, [.int 0, .int 0, .int 0, .int 0])), (q4, .inr (2, [.int 0, .int 0, .int 0, .int 0])), (q5, .inr (2, [.int 0, .int 0, .int 0, .int 0])), (q6, .inr (2, [.int 0, .int 0, .int 0, .int 0]))] H := hP
  have hD : va_D A [(h0, .inr (4, [.ref q1, .ref q2, .int 0])), (q1, .inl (cI, 3, .inl (fun _ => 0))), (q2, .inl (cP, 6, .inr (.inr (.inr (.inr (va_up (va_up (va_up (fun _ => none) (0 : Int32).toNatClampNeg (some q3)) (1 : Int32).toNatClampNeg (some q4)) (2 : Int32).toNatClampNeg (some q5))))))), (q3, .inr (2, [.int 0, .int 0, .int 0, .int 0])), (q4, .inr (2, [.int 0, .int 0, .int 0, .int 0])), (q5, .inr (2, [.int 0, .int 0, .int 0, .int 0])), (q6, .inr (2, [.int 0, .int 0, .int 0, .int 0]))] := hD
  refine W.widen (k := 6) (n := 25) (Nat.le_of_ble_eq_true rfl) (Nat.le_of_ble_eq_true rfl) ?_
  refine va_astq hx hb hK hP hD hS 2 2 6 2 rfl rfl rfl rfl (i := (3 : Int32)) (show ¬ ((3 : Int32) < 0 ∨ 6 ≤ (3 : Int32).toNatClampNeg) by decide) dX4_init_45 (fun H locs hP hD hS => ?_)
  have hP : va_P D vwCl [(h0, .inr (4, [.ref q1, .ref q2, .int 0])), (q1, .inl (cI, 3, .inl (fun _ => 0))), (q2, .inl (cP, 6, .inr (.inr (.inr (.inr (va_up (va_up (va_up (va_up (fun _ => none) (0 : Int32).toNatClampNeg (some q3)) (1 : Int32).toNatClampNeg (some q4)) (2 : Int32).toNatClampNeg (some q5)) (3 : Int32).toNatClampNeg (some q6))))))), (q3, .inr (2, [.int 0, .int 0, .int 0, .int 0])), (q4, .inr (2, [.int 0, .int 0, .int 0, .int 0])), (q5, .inr (2, [.int 0, .int 0, .int 0, .int 0])), (q6, .inr (2, [.int 0, .int 0, .int 0, .int 0]))] H := hP
  have hD : va_D A [(h0, .inr (4, [.ref q1, .ref q2, .int 0])), (q1, .inl (cI, 3, .inl (fun _ => 0))), (q2, .inl (cP, 6, .inr (.inr (.inr (.inr (va_up (va_up (va_up (va_up (fun _ => none) (0 : Int32).toNatClampNeg (some q3)) (1 : Int32).toNatClampNeg (some q4)) (2 : Int32).toNatClampNeg (some q5)) (3 : Int32).toNatClampNeg (some q6))))))), (q3, .inr (2, [.int 0, .int 0, .int 0, .int 0])), (q4, .inr (2, [.int 0, .int 0, .int 0, .int 0])), (q5, .inr (2, [.int 0, .int 0, .int 0, .int 0])), (q6, .inr (2, [.int 0, .int 0, .int 0, .int 0]))] := hD
  refine lv_iinc (v := (4 : Int32)) (lv' := [(1, .int (4)), (0, .ref h0)]) hx hb dX4_init_46 hl (k := 0) rfl (by decide) (by decide) rfl (fun ls hl => ?_)
  refine lv_goto (tgt := 27) hx hb dX4_init_49 (by decide) ?_
  refine lv_iload_n hx hb dX4_init_27 rfl (lv_at hl 0 rfl) ?_
  refine lv_bipush (v := (6 : Int32)) hx hb dX4_init_28 (by decide) ?_
  refine lv_icmp_ge (tgt := 52) hx hb dX4_init_30 (by decide) (fun z => absurd z (by decide)) (fun _ => ?_)
  refine lv_aload_n hx hb dX4_init_33 rfl (lv_at hl 1 rfl) ?_
  refine va_get (ci := 4) (C := RX4) (T := TX4) (N := 3) hx hb hts iX4_init_X4 hown hK hP 0 rfl rfl 1 (by decide) (hts _ kX4_init_6) (fun _ h => h) (v := .ref q2) rfl dX4_init_34 ?_
  refine lv_iload_n hx hb dX4_init_37 rfl (lv_at hl 0 rfl) ?_
  refine va_new (ci := 2) (fs := [.int 0, .int 0, .int 0, .int 0]) (C := RX2) (T := TX2) (N := 4) hx hb hts iX4_init_X2 tyX2 tyX2_ok hown (hts _ kX4_init_5) (hts _ kX4_init_8) (hts _ kX4_init_9) hK hP hD hS hA rfl (by decide) (Nat.le_of_ble_eq_true rfl) (Nat.le_of_ble_eq_true rfl) dX4_init_38 (fun q7 H hP hD hS => ?_)
  have hP : va_P D vwCl [(h0, .inr (4, [.ref q1, .ref q2, .int 0])), (q1, .inl (cI, 3, .inl (fun _ => 0))), (q2, .inl (cP, 6, .inr (.inr (.inr (.inr (va_up (va_up (va_up (va_up (fun _ => none) (0 : Int32).toNatClampNeg (some q3)) (1 : Int32).toNatClampNeg (some q4)) (2 : Int32).toNatClampNeg (some q5)) (3 : Int32).toNatClampNeg (some q6))))))), (q3, .inr (2, [.int 0, .int 0, .int 0, .int 0])), (q4, .inr (2, [.int 0, .int 0, .int 0, .int 0])), (q5, .inr (2, [.int 0, .int 0, .int 0, .int 0])), (q6, .inr (2, [.int 0, .int 0, .int 0, .int 0])), (q7, .inr (2, [.int 0, .int 0, .int 0, .int 0]))] H := hP
  have hD : va_D A [(h0, .inr (4, [.ref q1, .ref q2, .int 0])), (q1, .inl (cI, 3, .inl (fun _ => 0))), (q2, .inl (cP, 6, .inr (.inr (.inr (.inr (va_up (va_up (va_up (va_up (fun _ => none) (0 : Int32).toNatClampNeg (some q3)) (1 : Int32).toNatClampNeg (some q4)) (2 : Int32).toNatClampNeg (some q5)) (3 : Int32).toNatClampNeg (some q6))))))), (q3, .inr (2, [.int 0, .int 0, .int 0, .int 0])), (q4, .inr (2, [.int 0, .int 0, .int 0, .int 0])), (q5, .inr (2, [.int 0, .int 0, .int 0, .int 0])), (q6, .inr (2, [.int 0, .int 0, .int 0, .int 0])), (q7, .inr (2, [.int 0, .int 0, .int 0, .int 0]))] := hD
  refine W.widen (k := 7) (n := 29) (Nat.le_of_ble_eq_true rfl) (Nat.le_of_ble_eq_true rfl) ?_
  refine lv_dup hx hb dX4_init_41 rfl ?_
  have hPc := hP.sub (ws' := [(q7, .inr (2, [.int 0, .int 0, .int 0, .int 0]))]) [7] rfl
  have hDc := hD.sub (ws' := [(q7, .inr (2, [.int 0, .int 0, .int 0, .int 0]))]) [7] (by decide) rfl
  have hFc := va_free (wc := [(q7, .inr (2, [.int 0, .int 0, .int 0, .int 0]))]) hD hS hA [7] rfl
  refine va_callv (va_runIN (As := []) (rest := [.ref q7, .int (4), .ref q2]) ⟨hx, hb, hml, hown, hts⟩ (KX2 l D cI cS cP q7 H.size) ⟨va_cnB 0 hts gX4_init_X2_init_n25 rfl rfl rfl hN.nX4_25 (hts _ kX4_init_9) (by decide +kernel) ⟨Nat.le_of_ble_eq_true rfl, Nat.le_of_ble_eq_true rfl⟩, rfl, (hts _ kX4_init_10)⟩ (z_preC hN hK hPc hDc) rfl rfl hl.1 rfl (lv_room (Nat.le_of_ble_eq_true rfl)) dX4_init_42 ⟨Nat.le_of_ble_eq_true rfl, Nat.le_of_ble_eq_true rfl⟩) hS (fun q _ h => hFc q h) hFc (fun u t H1 locs ht hvm hw hB hz1 hk1 hS => ?_)
  obtain ⟨hP1, hD1⟩ := hB
  rw [ht] at hP1
  rw [hw] at hP1 hD1
  obtain ⟨hP, hD⟩ := va_join (wr := [(h0, .inr (4, [.ref q1, .ref q2, .int 0])), (q1, .inl (cI, 3, .inl (fun _ => 0))), (q2, .inl (cP, 6, .inr (.inr (.inr (.inr (va_up (va_up (va_up (va_up (fun _ => none) (0 : Int32).toNatClampNeg (some q3)) (1 : Int32).toNatClampNeg (some q4)) (2 : Int32).toNatClampNeg (some q5)) (3 : Int32).toNatClampNeg (some q6))))))), (q3, .inr (2, [.int 0, .int 0, .int 0, .int 0])), (q4, .inr (2, [.int 0, .int 0, .int 0, .int 0])), (q5, .inr (2, [.int 0, .int 0, .int 0, .int 0])), (q6, .inr (2, [.int 0, .int 0, .int 0, .int 0]))]) (w1 := [(q7, .inr (2, [.int 0, .int 0, .int 0, .int 0]))]) hP hD [7] [0, 1, 2, 3, 4, 5, 6] rfl rfl (by decide) (by decide) hk1 hFc hP1 hD1
  generalize H1 = H at hP hS ⊢
  clear hPc hDc hFc hP1 hD1 hk1 hz1 hw ht hvm
  have hP : va_P D vwCl [(h0, .inr (4, [.ref q1, .ref q2, .int 0])), (q1, .inl (cI, 3, .inl (fun _ => 0))), (q2, .inl (cP, 6, .inr (.inr (.inr (.inr (va_up (va_up (va_up (va_up (fun _ => none) (0 : Int32).toNatClampNeg (some q3)) (1 : Int32).toNatClampNeg (some q4)) (2 : Int32).toNatClampNeg (some q5)) (3 : Int32).toNatClampNeg (some q6))))))), (q3, .inr (2, [.int 0, .int 0, .int 0, .int 0])), (q4, .inr (2, [.int 0, .int 0, .int 0, .int 0])), (q5, .inr (2, [.int 0, .int 0, .int 0, .int 0])), (q6, .inr (2, [.int 0, .int 0, .int 0, .int 0])), (q7, .inr (2, [.int 0, .int 0, .int 0, .int 0]))] H := hP
  have hD : va_D A [(h0, .inr (4, [.ref q1, .ref q2, .int 0])), (q1, .inl (cI, 3, .inl (fun _ => 0))), (q2, .inl (cP, 6, .inr (.inr (.inr (.inr (va_up (va_up (va_up (va_up (fun _ => none) (0 : Int32).toNatClampNeg (some q3)) (1 : Int32).toNatClampNeg (some q4)) (2 : Int32).toNatClampNeg (some q5)) (3 : Int32).toNatClampNeg (some q6))))))), (q3, .inr (2, [.int 0, .int 0, .int 0, .int 0])), (q4, .inr (2, [.int 0, .int 0, .int 0, .int 0])), (q5, .inr (2, [.int 0, .int 0, .int 0, .int 0])), (q6, .inr (2, [.int 0, .int 0, .int 0, .int 0])), (q7, .inr (2, [.int 0, .int 0, .int 0, .int 0]))] := hD
  refine W.widen (k := 7) (n := 29) (Nat.le_of_ble_eq_true rfl) (Nat.le_of_ble_eq_true rfl) ?_
  refine va_astq hx hb hK hP hD hS 2 2 7 2 rfl rfl rfl rfl (i := (4 : Int32)) (show ¬ ((4 : Int32) < 0 ∨ 6 ≤ (4 : Int32).toNatClampNeg) by decide) dX4_init_45 (fun H locs hP hD hS => ?_)
  have hP : va_P D vwCl [(h0, .inr (4, [.ref q1, .ref q2, .int 0])), (q1, .inl (cI, 3, .inl (fun _ => 0))), (q2, .inl (cP, 6, .inr (.inr (.inr (.inr (va_up (va_up (va_up (va_up (va_up (fun _ => none) (0 : Int32).toNatClampNeg (some q3)) (1 : Int32).toNatClampNeg (some q4)) (2 : Int32).toNatClampNeg (some q5)) (3 : Int32).toNatClampNeg (some q6)) (4 : Int32).toNatClampNeg (some q7))))))), (q3, .inr (2, [.int 0, .int 0, .int 0, .int 0])), (q4, .inr (2, [.int 0, .int 0, .int 0, .int 0])), (q5, .inr (2, [.int 0, .int 0, .int 0, .int 0])), (q6, .inr (2, [.int 0, .int 0, .int 0, .int 0])), (q7, .inr (2, [.int 0, .int 0, .int 0, .int 0]))] H := hP
  have hD : va_D A [(h0, .inr (4, [.ref q1, .ref q2, .int 0])), (q1, .inl (cI, 3, .inl (fun _ => 0))), (q2, .inl (cP, 6, .inr (.inr (.inr (.inr (va_up (va_up (va_up (va_up (va_up (fun _ => none) (0 : Int32).toNatClampNeg (some q3)) (1 : Int32).toNatClampNeg (some q4)) (2 : Int32).toNatClampNeg (some q5)) (3 : Int32).toNatClampNeg (some q6)) (4 : Int32).toNatClampNeg (some q7))))))), (q3, .inr (2, [.int 0, .int 0, .int 0, .int 0])), (q4, .inr (2, [.int 0, .int 0, .int 0, .int 0])), (q5, .inr (2, [.int 0, .int 0, .int 0, .int 0])), (q6, .inr (2, [.int 0, .int 0, .int 0, .int 0])), (q7, .inr (2, [.int 0, .int 0, .int 0, .int 0]))] := hD
  refine lv_iinc (v := (5 : Int32)) (lv' := [(1, .int (5)), (0, .ref h0)]) hx hb dX4_init_46 hl (k := 0) rfl (by decide) (by decide) rfl (fun ls hl => ?_)
  refine lv_goto (tgt := 27) hx hb dX4_init_49 (by decide) ?_
  refine lv_iload_n hx hb dX4_init_27 rfl (lv_at hl 0 rfl) ?_
  refine lv_bipush (v := (6 : Int32)) hx hb dX4_init_28 (by decide) ?_
  refine lv_icmp_ge (tgt := 52) hx hb dX4_init_30 (by decide) (fun z => absurd z (by decide)) (fun _ => ?_)
  refine lv_aload_n hx hb dX4_init_33 rfl (lv_at hl 1 rfl) ?_
  refine va_get (ci := 4) (C := RX4) (T := TX4) (N := 3) hx hb hts iX4_init_X4 hown hK hP 0 rfl rfl 1 (by decide) (hts _ kX4_init_6) (fun _ h => h) (v := .ref q2) rfl dX4_init_34 ?_
  refine lv_iload_n hx hb dX4_init_37 rfl (lv_at hl 0 rfl) ?_
  refine va_new (ci := 2) (fs := [.int 0, .int 0, .int 0, .int 0]) (C := RX2) (T := TX2) (N := 4) hx hb hts iX4_init_X2 tyX2 tyX2_ok hown (hts _ kX4_init_5) (hts _ kX4_init_8) (hts _ kX4_init_9) hK hP hD hS hA rfl (by decide) (Nat.le_of_ble_eq_true rfl) (Nat.le_of_ble_eq_true rfl) dX4_init_38 (fun q8 H hP hD hS => ?_)
  have hP : va_P D vwCl [(h0, .inr (4, [.ref q1, .ref q2, .int 0])), (q1, .inl (cI, 3, .inl (fun _ => 0))), (q2, .inl (cP, 6, .inr (.inr (.inr (.inr (va_up (va_up (va_up (va_up (va_up (fun _ => none) (0 : Int32).toNatClampNeg (some q3)) (1 : Int32).toNatClampNeg (some q4)) (2 : Int32).toNatClampNeg (some q5)) (3 : Int32).toNatClampNeg (some q6)) (4 : Int32).toNatClampNeg (some q7))))))), (q3, .inr (2, [.int 0, .int 0, .int 0, .int 0])), (q4, .inr (2, [.int 0, .int 0, .int 0, .int 0])), (q5, .inr (2, [.int 0, .int 0, .int 0, .int 0])), (q6, .inr (2, [.int 0, .int 0, .int 0, .int 0])), (q7, .inr (2, [.int 0, .int 0, .int 0, .int 0])), (q8, .inr (2, [.int 0, .int 0, .int 0, .int 0]))] H := hP
  have hD : va_D A [(h0, .inr (4, [.ref q1, .ref q2, .int 0])), (q1, .inl (cI, 3, .inl (fun _ => 0))), (q2, .inl (cP, 6, .inr (.inr (.inr (.inr (va_up (va_up (va_up (va_up (va_up (fun _ => none) (0 : Int32).toNatClampNeg (some q3)) (1 : Int32).toNatClampNeg (some q4)) (2 : Int32).toNatClampNeg (some q5)) (3 : Int32).toNatClampNeg (some q6)) (4 : Int32).toNatClampNeg (some q7))))))), (q3, .inr (2, [.int 0, .int 0, .int 0, .int 0])), (q4, .inr (2, [.int 0, .int 0, .int 0, .int 0])), (q5, .inr (2, [.int 0, .int 0, .int 0, .int 0])), (q6, .inr (2, [.int 0, .int 0, .int 0, .int 0])), (q7, .inr (2, [.int 0, .int 0, .int 0, .int 0])), (q8, .inr (2, [.int 0, .int 0, .int 0, .int 0]))] := hD
  refine W.widen (k := 8) (n := 33) (Nat.le_of_ble_eq_true rfl) (Nat.le_of_ble_eq_true rfl) ?_
  refine lv_dup hx hb dX4_init_41 rfl ?_
  have hPc := hP.sub (ws' := [(q8, .inr (2, [.int 0, .int 0, .int 0, .int 0]))]) [8] rfl
  have hDc := hD.sub (ws' := [(q8, .inr (2, [.int 0, .int 0, .int 0, .int 0]))]) [8] (by decide) rfl
  have hFc := va_free (wc := [(q8, .inr (2, [.int 0, .int 0, .int 0, .int 0]))]) hD hS hA [8] rfl
  refine va_callv (va_runIN (As := []) (rest := [.ref q8, .int (5), .ref q2]) ⟨hx, hb, hml, hown, hts⟩ (KX2 l D cI cS cP q8 H.size) ⟨va_cnB 0 hts gX4_init_X2_init_n25 rfl rfl rfl hN.nX4_25 (hts _ kX4_init_9) (by decide +kernel) ⟨Nat.le_of_ble_eq_true rfl, Nat.le_of_ble_eq_true rfl⟩, rfl, (hts _ kX4_init_10)⟩ (z_preC hN hK hPc hDc) rfl rfl hl.1 rfl (lv_room (Nat.le_of_ble_eq_true rfl)) dX4_init_42 ⟨Nat.le_of_ble_eq_true rfl, Nat.le_of_ble_eq_true rfl⟩) hS (fun q _ h => hFc q h) hFc (fun u t H1 locs ht hvm hw hB hz1 hk1 hS => ?_)
  obtain ⟨hP1, hD1⟩ := hB
  rw [ht] at hP1
  rw [hw] at hP1 hD1
  obtain ⟨hP, hD⟩ := va_join (wr := [(h0, .inr (4, [.ref q1, .ref q2, .int 0])), (q1, .inl (cI, 3, .inl (fun _ => 0))), (q2, .inl (cP, 6, .inr (.inr (.inr (.inr (va_up (va_up (va_up (va_up (va_up (fun _ => none) (0 : Int32).toNatClampNeg (some q3)) (1 : Int32).toNatClampNeg (some q4)) (2 : Int32).toNatClampNeg (some q5)) (3 : Int32).toNatClampNeg (some q6)) (4 : Int32).toNatClampNeg (some q7))))))), (q3, .inr (2, [.int 0, .int 0, .int 0, .int 0])), (q4, .inr (2, [.int 0, .int 0, .int 0, .int 0])), (q5, .inr (2, [.int 0, .int 0, .int 0, .int 0])), (q6, .inr (2, [.int 0, .int 0, .int 0, .int 0])), (q7, .inr (2, [.int 0, .int 0, .int 0, .int 0]))]) (w1 := [(q8, .inr (2, [.int 0, .int 0, .int 0, .int 0]))]) hP hD [8] [0, 1, 2, 3, 4, 5, 6, 7] rfl rfl (by decide) (by decide) hk1 hFc hP1 hD1
  generalize H1 = H at hP hS ⊢
  clear hPc hDc hFc hP1 hD1 hk1 hz1 hw ht hvm
  have hP : va_P D vwCl [(h0, .inr (4, [.ref q1, .ref q2, .int 0])), (q1, .inl (cI, 3, .inl (fun _ => 0))), (q2, .inl (cP, 6, .inr (.inr (.inr (.inr (va_up (va_up (va_up (va_up (va_up (fun _ => none) (0 : Int32).toNatClampNeg (some q3)) (1 : Int32).toNatClampNeg (some q4)) (2 : Int32).toNatClampNeg (some q5)) (3 : Int32).toNatClampNeg (some q6)) (4 : Int32).toNatClampNeg (some q7))))))), (q3, .inr (2, [.int 0, .int 0, .int 0, .int 0])), (q4, .inr (2, [.int 0, .int 0, .int 0, .int 0])), (q5, .inr (2, [.int 0, .int 0, .int 0, .int 0])), (q6, .inr (2, [.int 0, .int 0, .int 0, .int 0])), (q7, .inr (2, [.int 0, .int 0, .int 0, .int 0])), (q8, .inr (2, [.int 0, .int 0, .int 0, .int 0]))] H := hP
  have hD : va_D A [(h0, .inr (4, [.ref q1, .ref q2, .int 0])), (q1, .inl (cI, 3, .inl (fun _ => 0))), (q2, .inl (cP, 6, .inr (.inr (.inr (.inr (va_up (va_up (va_up (va_up (va_up (fun _ => none) (0 : Int32).toNatClampNeg (some q3)) (1 : Int32).toNatClampNeg (some q4)) (2 : Int32).toNatClampNeg (some q5)) (3 : Int32).toNatClampNeg (some q6)) (4 : Int32).toNatClampNeg (some q7))))))), (q3, .inr (2, [.int 0, .int 0, .int 0, .int 0])), (q4, .inr (2, [.int 0, .int 0, .int 0, .int 0])), (q5, .inr (2, [.int 0, .int 0, .int 0, .int 0])), (q6, .inr (2, [.int 0, .int 0, .int 0, .int 0])), (q7, .inr (2, [.int 0, .int 0, .int 0, .int 0])), (q8, .inr (2, [.int 0, .int 0, .int 0, .int 0]))] := hD
  refine W.widen (k := 8) (n := 33) (Nat.le_of_ble_eq_true rfl) (Nat.le_of_ble_eq_true rfl) ?_
  refine va_astq hx hb hK hP hD hS 2 2 8 2 rfl rfl rfl rfl (i := (5 : Int32)) (show ¬ ((5 : Int32) < 0 ∨ 6 ≤ (5 : Int32).toNatClampNeg) by decide) dX4_init_45 (fun H locs hP hD hS => ?_)
  have hP : va_P D vwCl [(h0, .inr (4, [.ref q1, .ref q2, .int 0])), (q1, .inl (cI, 3, .inl (fun _ => 0))), (q2, .inl (cP, 6, .inr (.inr (.inr (.inr (va_up (va_up (va_up (va_up (va_up (va_up (fun _ => none) (0 : Int32).toNatClampNeg (some q3)) (1 : Int32).toNatClampNeg (some q4)) (2 : Int32).toNatClampNeg (some q5)) (3 : Int32).toNatClampNeg (some q6)) (4 : Int32).toNatClampNeg (some q7)) (5 : Int32).toNatClampNeg (some q8))))))), (q3, .inr (2, [.int 0, .int 0, .int 0, .int 0])), (q4, .inr (2, [.int 0, .int 0, .int 0, .int 0])), (q5, .inr (2, [.int 0, .int 0, .int 0, .int 0])), (q6, .inr (2, [.int 0, .int 0, .int 0, .int 0])), (q7, .inr (2, [.int 0, .int 0, .int 0, .int 0])), (q8, .inr (2, [.int 0, .int 0, .int 0, .int 0]))] H := hP
  have hD : va_D A [(h0, .inr (4, [.ref q1, .ref q2, .int 0])), (q1, .inl (cI, 3, .inl (fun _ => 0))), (q2, .inl (cP, 6, .inr (.inr (.inr (.inr (va_up (va_up (va_up (va_up (va_up (va_up (fun _ => none) (0 : Int32).toNatClampNeg (some q3)) (1 : Int32).toNatClampNeg (some q4)) (2 : Int32).toNatClampNeg (some q5)) (3 : Int32).toNatClampNeg (some q6)) (4 : Int32).toNatClampNeg (some q7)) (5 : Int32).toNatClampNeg (some q8))))))), (q3, .inr (2, [.int 0, .int 0, .int 0, .int 0])), (q4, .inr (2, [.int 0, .int 0, .int 0, .int 0])), (q5, .inr (2, [.int 0, .int 0, .int 0, .int 0])), (q6, .inr (2, [.int 0, .int 0, .int 0, .int 0])), (q7, .inr (2, [.int 0, .int 0, .int 0, .int 0])), (q8, .inr (2, [.int 0, .int 0, .int 0, .int 0]))] := hD
  refine lv_iinc (v := (6 : Int32)) (lv' := [(1, .int (6)), (0, .ref h0)]) hx hb dX4_init_46 hl (k := 0) rfl (by decide) (by decide) rfl (fun ls hl => ?_)
  refine lv_goto (tgt := 27) hx hb dX4_init_49 (by decide) ?_
  refine lv_iload_n hx hb dX4_init_27 rfl (lv_at hl 0 rfl) ?_
  refine lv_bipush (v := (6 : Int32)) hx hb dX4_init_28 (by decide) ?_
  refine lv_icmp_ge (tgt := 52) hx hb dX4_init_30 (by decide) (fun _ => ?_) (fun z => absurd (by decide) z)
  have hP9 := hP.sub (ws' := [(h0, .inr (4, [.ref q1, .ref q2, .int 0])), (q1, .inl (cI, 3, .inl (fun _ => 0))), (q2, .inl (cP, 6, .inr (.inr (.inr (.inr (va_up (va_up (va_up (va_up (va_up (va_up (fun _ => none) (0 : Int32).toNatClampNeg (some q3)) (1 : Int32).toNatClampNeg (some q4)) (2 : Int32).toNatClampNeg (some q5)) (3 : Int32).toNatClampNeg (some q6)) (4 : Int32).toNatClampNeg (some q7)) (5 : Int32).toNatClampNeg (some q8))))))), (q3, .inr (2, [.int 0, .int 0, .int 0, .int 0])), (q4, .inr (2, [.int 0, .int 0, .int 0, .int 0])), (q5, .inr (2, [.int 0, .int 0, .int 0, .int 0])), (q6, .inr (2, [.int 0, .int 0, .int 0, .int 0])), (q7, .inr (2, [.int 0, .int 0, .int 0, .int 0])), (q8, .inr (2, [.int 0, .int 0, .int 0, .int 0]))]) [0, 1, 2, 3, 4, 5, 6, 7, 8] rfl
  have hD9 := hD.sub (ws' := [(h0, .inr (4, [.ref q1, .ref q2, .int 0])), (q1, .inl (cI, 3, .inl (fun _ => 0))), (q2, .inl (cP, 6, .inr (.inr (.inr (.inr (va_up (va_up (va_up (va_up (va_up (va_up (fun _ => none) (0 : Int32).toNatClampNeg (some q3)) (1 : Int32).toNatClampNeg (some q4)) (2 : Int32).toNatClampNeg (some q5)) (3 : Int32).toNatClampNeg (some q6)) (4 : Int32).toNatClampNeg (some q7)) (5 : Int32).toNatClampNeg (some q8))))))), (q3, .inr (2, [.int 0, .int 0, .int 0, .int 0])), (q4, .inr (2, [.int 0, .int 0, .int 0, .int 0])), (q5, .inr (2, [.int 0, .int 0, .int 0, .int 0])), (q6, .inr (2, [.int 0, .int 0, .int 0, .int 0])), (q7, .inr (2, [.int 0, .int 0, .int 0, .int 0])), (q8, .inr (2, [.int 0, .int 0, .int 0, .int 0]))]) [0, 1, 2, 3, 4, 5, 6, 7, 8] (by decide) rfl
  exact W.vret hx hb hr (fun t ht hW => ⟨⟨(fun j => [h0, q1, q2, q3, q4, q5, q6, q7, q8].getD j 0), rfl, rfl, by rw [ht]; exact hP9, hD9⟩, hS.F ht⟩) hS.2.2 dX4_init_52
