/-! ===== contracts: X9_tell, X9_greet, X9_as, X9_trace, X9_fault, X9_many ===== -/
theorem kX9_tell_f20 : Cond.fieldLink RX9 20 "LeastAsked" "now" "LLeastAsked$Province;" ∈ wsX9_tell := by decide +kernel
theorem kX9_tell_f58 : Cond.fieldLink RX9 58 "LeastAsked" "bodies" "LLeastAsked$Bodies;" ∈ wsX9_tell := by decide +kernel
theorem kX9_tell_f108 : Cond.fieldLink RX9 108 "LeastAsked$Province" "people" "[LLeastAsked$Person;" ∈ wsX9_tell := by decide +kernel
theorem iX9_tell_X9 : ∀ w ∈ u_ws RX9 TX9 11, w ∈ wsX9_tell := fun _ h => List.mem_cons_of_mem _ (List.mem_append_left _ (List.mem_append_left _ (List.mem_append_left _ (List.mem_append_right _ h))))
theorem iX9_tell_X4 : ∀ w ∈ u_ws RX4 TX4 3, w ∈ wsX9_tell := fun _ h => List.mem_cons_of_mem _ (List.mem_append_left _ (List.mem_append_left _ (List.mem_append_right _ h)))
set_option maxHeartbeats 4000000 in
set_option maxRecDepth 100000 in
theorem CX9_tell (l : Launch) (D : va_G) (cI cS cP : ClassId) (ad : Nat → Nat) (A : Nat → Prop) (n : Nat) (σ σ' : zMem) (r0 : Int32) (p1 : Int32) (hF : FX9_tell n σ p1 = some (r0, σ')) : Met l yX9_tell wsX9_tell ({ frames := 5, cells := 0, slots := 0, locals := 106 } : Room) (va_Pc [.ref (ad 0), .int p1] (zB (zx cI cS cP ad) 41 ad D (zty cI cS cP) A σ)) (va_Qi (fun r u => r = r0 ∧ u = σ') (zB (zx cI cS cP ad) 41 ad D (zty cI cS cP) A) A) 0 0 A := by
  refine Met.ofW (cc := cX9_tell) (maxL := 2) (ret := (some .int)) (by decide) rfl ?_
  intro p e s m args below meth c s₁ B hml hv
  obtain ⟨rfl, hP, hK, hD, hN⟩ := hv
  have hx := B.exec
  have hb := B.bytes
  have hr := B.returns
  have hts := atoms_spec (ws := wsX9_tell) B.pre
  have hown : s.vm.findClass RX9 = some m.cls := findClass_of_methodNamed B.named
  have hlocks := B.notSynchronized
  have hS : va_S A s.heap s.heap [] := va_S.rf
  have hl := lv_entry ([.ref (ad 0), .int p1]) (n := 2) (Nat.le_of_ble_eq_true rfl)
  rw [lg_entry_eq]
  generalize (lg_sl ([.ref (ad 0), .int p1]) ++ List.replicate (2 - (lg_sl ([.ref (ad 0), .int p1])).length) Slot.unset).toArray = ls at hl ⊢
  have hl : lv_has ls 2 [(0, .ref (ad 0)), (1, .int p1)] := hl
  clear B
  unfold FX9_tell at hF
  refine lv_aload_n hx hb dX9_tell_0 rfl (lv_at hl 0 rfl) ?_
  refine z_get (ci := 8) (C := RX9) (T := TX9) (N := 11) hx hb hts iX9_tell_X9 hown hK hP (zk_lt (rfl : zk 0 = 8) (by decide)) (zx_8 (rfl : zk 0 = 8)) rfl 1 (by decide) kX9_tell_f20 rfl (v := .ref (ad 10)) rfl dX9_tell_1 ?_
  refine lv_iload_n hx hb dX9_tell_4 rfl (lv_at hl 1 rfl) ?_
  obtain ⟨r2, σ1, hC3, hF⟩ := zbd_inv hF
  refine z_calli (va_runV (As := [.int p1]) (rest := []) ⟨hx, hb, hml, hown, hts⟩ (CX4_hasPerson l D cI cS cP ad A n σ σ1 r2 10 p1 (rfl : zk 10 = 4) hC3) (cwV 1 hts gX9_tell_X4_hasPerson rfl rfl rfl (by decide +kernel) ⟨Nat.le_of_ble_eq_true rfl, Nat.le_of_ble_eq_true rfl⟩) (z_preV hN hK hP hD (zk_lt (rfl : zk 10 = 4) (by decide)) (zx_4 (rfl : zk 10 = 4)) rfl) rfl rfl hl.1 rfl (lv_room (Nat.le_of_ble_eq_true rfl)) dX9_tell_5 ⟨Nat.zero_le _, Nat.zero_le _⟩) hS (fun H locs hP hD hS => ?_)
  refine lv_if_eq (tgt := 30) hx hb dX9_tell_8 (by decide) (fun b4 => ?_) (fun b4 => ?_)
  · have hF := zif_t b4 hF
    refine lv_iconst (v := (-1 : Int32)) hx hb dX9_tell_30 (by decide) ?_
    exact z_iret hx hb hr hlocks hN hK hP hD hS hF dX9_tell_31
  · have hF := zif_f b4 hF
    refine lv_aload_n hx hb dX9_tell_11 rfl (lv_at hl 0 rfl) ?_
    refine z_get (ci := 8) (C := RX9) (T := TX9) (N := 11) hx hb hts iX9_tell_X9 hown hK hP (zk_lt (rfl : zk 0 = 8) (by decide)) (zx_8 (rfl : zk 0 = 8)) rfl 7 (by decide) kX9_tell_f58 rfl (v := .ref (ad 40)) rfl dX9_tell_12 ?_
    refine lv_aload_n hx hb dX9_tell_15 rfl (lv_at hl 0 rfl) ?_
    refine z_get (ci := 8) (C := RX9) (T := TX9) (N := 11) hx hb hts iX9_tell_X9 hown hK hP (zk_lt (rfl : zk 0 = 8) (by decide)) (zx_8 (rfl : zk 0 = 8)) rfl 1 (by decide) kX9_tell_f20 rfl (v := .ref (ad 10)) rfl dX9_tell_16 ?_
    refine z_get (ci := 4) (C := RX4) (T := TX4) (N := 3) hx hb hts iX9_tell_X4 hown hK hP (zk_lt (rfl : zk 10 = 4) (by decide)) (zx_4 (rfl : zk 10 = 4)) rfl 1 (by decide) kX9_tell_f108 rfl (v := .ref (ad 12)) rfl dX9_tell_19 ?_
    refine lv_iload_n hx hb dX9_tell_22 rfl (lv_at hl 1 rfl) ?_
    obtain ⟨g5, hF⟩ := zgd_inv hF
    refine z_aldq hx hb hK hP 2 (zk_lt (zk_4p (rfl : zk 10 = 4)) (by decide)) (zx_22 (zk_4p (rfl : zk 10 = 4))) rfl g5 dX9_tell_23 ?_
    obtain ⟨r7, σ6, hC8, hF⟩ := zbd_inv hF
    refine z_calli (va_runV (As := [.ref (ad (13 + (p1 : Int32).toNatClampNeg))]) (rest := []) ⟨hx, hb, hml, hown, hts⟩ (CX0_telling l D cI cS cP ad A n σ1 σ6 r7 40 (13 + (p1 : Int32).toNatClampNeg) (rfl : zk 40 = 0) (zk_22p (zk_4p (rfl : zk 10 = 4)) g5) hC8) (cwV 1 hts gX9_tell_X0_telling rfl rfl rfl (by decide +kernel) ⟨Nat.le_of_ble_eq_true rfl, Nat.le_of_ble_eq_true rfl⟩) (z_preV hN hK hP hD (zk_lt (rfl : zk 40 = 0) (by decide)) (zx_0 (rfl : zk 40 = 0)) rfl) rfl rfl hl.1 rfl (lv_room (Nat.le_of_ble_eq_true rfl)) dX9_tell_24 ⟨Nat.zero_le _, Nat.zero_le _⟩) hS (fun H locs hP hD hS => ?_)
    refine lv_goto (tgt := 31) hx hb dX9_tell_27 (by decide) ?_
    exact z_iret hx hb hr hlocks hN hK hP hD hS hF dX9_tell_31
theorem kX9_greet_f20 : Cond.fieldLink RX9 20 "LeastAsked" "now" "LLeastAsked$Province;" ∈ wsX9_greet := by decide +kernel
theorem kX9_greet_f58 : Cond.fieldLink RX9 58 "LeastAsked" "bodies" "LLeastAsked$Bodies;" ∈ wsX9_greet := by decide +kernel
theorem kX9_greet_f108 : Cond.fieldLink RX9 108 "LeastAsked$Province" "people" "[LLeastAsked$Person;" ∈ wsX9_greet := by decide +kernel
theorem iX9_greet_X9 : ∀ w ∈ u_ws RX9 TX9 11, w ∈ wsX9_greet := fun _ h => List.mem_cons_of_mem _ (List.mem_append_left _ (List.mem_append_left _ (List.mem_append_left _ (List.mem_append_right _ h))))
theorem iX9_greet_X4 : ∀ w ∈ u_ws RX4 TX4 3, w ∈ wsX9_greet := fun _ h => List.mem_cons_of_mem _ (List.mem_append_left _ (List.mem_append_left _ (List.mem_append_right _ h)))
set_option maxHeartbeats 4000000 in
set_option maxRecDepth 100000 in
theorem CX9_greet (l : Launch) (D : va_G) (cI cS cP : ClassId) (ad : Nat → Nat) (A : Nat → Prop) (n : Nat) (σ σ' : zMem) (r0 : Int32) (p1 : Int32) (hF : FX9_greet n σ p1 = some (r0, σ')) : Met l yX9_greet wsX9_greet ({ frames := 2, cells := 0, slots := 0, locals := 42 } : Room) (va_Pc [.ref (ad 0), .int p1] (zB (zx cI cS cP ad) 41 ad D (zty cI cS cP) A σ)) (va_Qi (fun r u => r = r0 ∧ u = σ') (zB (zx cI cS cP ad) 41 ad D (zty cI cS cP) A) A) 0 0 A := by
  refine Met.ofW (cc := cX9_greet) (maxL := 2) (ret := (some .int)) (by decide) rfl ?_
  intro p e s m args below meth c s₁ B hml hv
  obtain ⟨rfl, hP, hK, hD, hN⟩ := hv
  have hx := B.exec
  have hb := B.bytes
  have hr := B.returns
  have hts := atoms_spec (ws := wsX9_greet) B.pre
  have hown : s.vm.findClass RX9 = some m.cls := findClass_of_methodNamed B.named
  have hlocks := B.notSynchronized
  have hS : va_S A s.heap s.heap [] := va_S.rf
  have hl := lv_entry ([.ref (ad 0), .int p1]) (n := 2) (Nat.le_of_ble_eq_true rfl)
  rw [lg_entry_eq]
  generalize (lg_sl ([.ref (ad 0), .int p1]) ++ List.replicate (2 - (lg_sl ([.ref (ad 0), .int p1])).length) Slot.unset).toArray = ls at hl ⊢
  have hl : lv_has ls 2 [(0, .ref (ad 0)), (1, .int p1)] := hl
  clear B
  unfold FX9_greet at hF
  refine lv_aload_n hx hb dX9_greet_0 rfl (lv_at hl 0 rfl) ?_
  refine z_get (ci := 8) (C := RX9) (T := TX9) (N := 11) hx hb hts iX9_greet_X9 hown hK hP (zk_lt (rfl : zk 0 = 8) (by decide)) (zx_8 (rfl : zk 0 = 8)) rfl 1 (by decide) kX9_greet_f20 rfl (v := .ref (ad 10)) rfl dX9_greet_1 ?_
  refine lv_iload_n hx hb dX9_greet_4 rfl (lv_at hl 1 rfl) ?_
  obtain ⟨r2, σ1, hC3, hF⟩ := zbd_inv hF
  refine z_calli (va_runV (As := [.int p1]) (rest := []) ⟨hx, hb, hml, hown, hts⟩ (CX4_hasPerson l D cI cS cP ad A n σ σ1 r2 10 p1 (rfl : zk 10 = 4) hC3) (cwV 1 hts gX9_greet_X4_hasPerson rfl rfl rfl (by decide +kernel) ⟨Nat.le_of_ble_eq_true rfl, Nat.le_of_ble_eq_true rfl⟩) (z_preV hN hK hP hD (zk_lt (rfl : zk 10 = 4) (by decide)) (zx_4 (rfl : zk 10 = 4)) rfl) rfl rfl hl.1 rfl (lv_room (Nat.le_of_ble_eq_true rfl)) dX9_greet_5 ⟨Nat.zero_le _, Nat.zero_le _⟩) hS (fun H locs hP hD hS => ?_)
  refine lv_if_eq (tgt := 30) hx hb dX9_greet_8 (by decide) (fun b4 => ?_) (fun b4 => ?_)
  · have hF := zif_t b4 hF
    refine lv_iconst (v := (-1 : Int32)) hx hb dX9_greet_30 (by decide) ?_
    exact z_iret hx hb hr hlocks hN hK hP hD hS hF dX9_greet_31
  · have hF := zif_f b4 hF
    refine lv_aload_n hx hb dX9_greet_11 rfl (lv_at hl 0 rfl) ?_
    refine z_get (ci := 8) (C := RX9) (T := TX9) (N := 11) hx hb hts iX9_greet_X9 hown hK hP (zk_lt (rfl : zk 0 = 8) (by decide)) (zx_8 (rfl : zk 0 = 8)) rfl 7 (by decide) kX9_greet_f58 rfl (v := .ref (ad 40)) rfl dX9_greet_12 ?_
    refine lv_aload_n hx hb dX9_greet_15 rfl (lv_at hl 0 rfl) ?_
    refine z_get (ci := 8) (C := RX9) (T := TX9) (N := 11) hx hb hts iX9_greet_X9 hown hK hP (zk_lt (rfl : zk 0 = 8) (by decide)) (zx_8 (rfl : zk 0 = 8)) rfl 1 (by decide) kX9_greet_f20 rfl (v := .ref (ad 10)) rfl dX9_greet_16 ?_
    refine z_get (ci := 4) (C := RX4) (T := TX4) (N := 3) hx hb hts iX9_greet_X4 hown hK hP (zk_lt (rfl : zk 10 = 4) (by decide)) (zx_4 (rfl : zk 10 = 4)) rfl 1 (by decide) kX9_greet_f108 rfl (v := .ref (ad 12)) rfl dX9_greet_19 ?_
    refine lv_iload_n hx hb dX9_greet_22 rfl (lv_at hl 1 rfl) ?_
    obtain ⟨g5, hF⟩ := zgd_inv hF
    refine z_aldq hx hb hK hP 2 (zk_lt (zk_4p (rfl : zk 10 = 4)) (by decide)) (zx_22 (zk_4p (rfl : zk 10 = 4))) rfl g5 dX9_greet_23 ?_
    obtain ⟨r7, σ6, hC8, hF⟩ := zbd_inv hF
    refine z_calli (va_runV (As := [.ref (ad (13 + (p1 : Int32).toNatClampNeg))]) (rest := []) ⟨hx, hb, hml, hown, hts⟩ (CX0_greeting l D cI cS cP ad A n σ1 σ6 r7 40 (13 + (p1 : Int32).toNatClampNeg) (rfl : zk 40 = 0) (zk_22p (zk_4p (rfl : zk 10 = 4)) g5) hC8) (cwV 1 hts gX9_greet_X0_greeting rfl rfl rfl (by decide +kernel) ⟨Nat.le_of_ble_eq_true rfl, Nat.le_of_ble_eq_true rfl⟩) (z_preV hN hK hP hD (zk_lt (rfl : zk 40 = 0) (by decide)) (zx_0 (rfl : zk 40 = 0)) rfl) rfl rfl hl.1 rfl (lv_room (Nat.le_of_ble_eq_true rfl)) dX9_greet_24 ⟨Nat.zero_le _, Nat.zero_le _⟩) hS (fun H locs hP hD hS => ?_)
    refine lv_goto (tgt := 31) hx hb dX9_greet_27 (by decide) ?_
    exact z_iret hx hb hr hlocks hN hK hP hD hS hF dX9_greet_31
theorem kX9_as_f69 : Cond.fieldLink RX9 69 "LeastAsked" "lastFault" "I" ∈ wsX9_as := by decide +kernel
theorem kX9_as_f20 : Cond.fieldLink RX9 20 "LeastAsked" "now" "LLeastAsked$Province;" ∈ wsX9_as := by decide +kernel
theorem kX9_as_f108 : Cond.fieldLink RX9 108 "LeastAsked$Province" "people" "[LLeastAsked$Person;" ∈ wsX9_as := by decide +kernel
theorem kX9_as_f112 : Cond.fieldLink RX9 112 "LeastAsked$Person" "kind" "I" ∈ wsX9_as := by decide +kernel
theorem iX9_as_X9 : ∀ w ∈ u_ws RX9 TX9 11, w ∈ wsX9_as := fun _ h => List.mem_cons_of_mem _ (List.mem_append_left _ (List.mem_append_left _ (List.mem_append_right _ h)))
theorem iX9_as_X4 : ∀ w ∈ u_ws RX4 TX4 3, w ∈ wsX9_as := fun _ h => List.mem_cons_of_mem _ (List.mem_append_left _ (List.mem_append_right _ h))
theorem iX9_as_X2 : ∀ w ∈ u_ws RX2 TX2 4, w ∈ wsX9_as := fun _ h => List.mem_cons_of_mem _ (List.mem_append_right _ h)
set_option maxHeartbeats 4000000 in
set_option maxRecDepth 100000 in
theorem CX9_as (l : Launch) (D : va_G) (cI cS cP : ClassId) (ad : Nat → Nat) (A : Nat → Prop) (n : Nat) (σ σ' : zMem) (r0 : Int32) (p1 : Int32) (p2 : Int32) (hF : FX9_as n σ p1 p2 = some (r0, σ')) : Met l yX9_as wsX9_as ({ frames := 2, cells := 0, slots := 0, locals := 42 } : Room) (va_Pc [.ref (ad 0), .int p1, .int p2] (zB (zx cI cS cP ad) 41 ad D (zty cI cS cP) A σ)) (va_Qi (fun r u => r = r0 ∧ u = σ') (zB (zx cI cS cP ad) 41 ad D (zty cI cS cP) A) A) 0 0 A := by
  refine Met.ofW (cc := cX9_as) (maxL := 3) (ret := (some .int)) (by decide) rfl ?_
  intro p e s m args below meth c s₁ B hml hv
  obtain ⟨rfl, hP, hK, hD, hN⟩ := hv
  have hx := B.exec
  have hb := B.bytes
  have hr := B.returns
  have hts := atoms_spec (ws := wsX9_as) B.pre
  have hown : s.vm.findClass RX9 = some m.cls := findClass_of_methodNamed B.named
  have hlocks := B.notSynchronized
  have hS : va_S A s.heap s.heap [] := va_S.rf
  have hl := lv_entry ([.ref (ad 0), .int p1, .int p2]) (n := 3) (Nat.le_of_ble_eq_true rfl)
  rw [lg_entry_eq]
  generalize (lg_sl ([.ref (ad 0), .int p1, .int p2]) ++ List.replicate (3 - (lg_sl ([.ref (ad 0), .int p1, .int p2])).length) Slot.unset).toArray = ls at hl ⊢
  have hl : lv_has ls 3 [(0, .ref (ad 0)), (1, .int p1), (2, .int p2)] := hl
  clear B
  unfold FX9_as at hF
  refine lv_aload_n hx hb dX9_as_0 rfl (lv_at hl 0 rfl) ?_
  refine lv_iconst (v := (0 : Int32)) hx hb dX9_as_1 (by decide) ?_
  obtain ⟨σ1, eσ1, hF⟩ := zlet_inv hF
  refine z_put (ci := 8) (C := RX9) (T := TX9) (N := 11) hx hb hts iX9_as_X9 tyX9 tyX9_ok nmX9 hown hK hP hD hS (zk_lt (rfl : zk 0 = 8) (by decide)) (zx_8 (rfl : zk 0 = 8)) rfl 10 (by decide) kX9_as_f69 rfl rfl rfl rfl (Nat.le_of_ble_eq_true rfl) (zx_8 (rfl : zk 0 = 8)) dX9_as_2 (fun H locs hP hD hS => ?_)
  have hP : va_P D vwCl (zW (zx cI cS cP ad) 41 ad σ1) H := by rw [eσ1]; exact hP
  have hD : va_D A (zW (zx cI cS cP ad) 41 ad σ1) := by rw [eσ1]; exact hD
  refine lv_aload_n hx hb dX9_as_5 rfl (lv_at hl 0 rfl) ?_
  refine z_get (ci := 8) (C := RX9) (T := TX9) (N := 11) hx hb hts iX9_as_X9 hown hK hP (zk_lt (rfl : zk 0 = 8) (by decide)) (zx_8 (rfl : zk 0 = 8)) rfl 1 (by decide) kX9_as_f20 rfl (v := .ref (ad 10)) rfl dX9_as_6 ?_
  refine lv_iload_n hx hb dX9_as_9 rfl (lv_at hl 1 rfl) ?_
  obtain ⟨r3, σ2, hC4, hF⟩ := zbd_inv hF
  refine z_calli (va_runV (As := [.int p1]) (rest := []) ⟨hx, hb, hml, hown, hts⟩ (CX4_hasPerson l D cI cS cP ad A n σ1 σ2 r3 10 p1 (rfl : zk 10 = 4) hC4) (cwV 1 hts gX9_as_X4_hasPerson rfl rfl rfl (by decide +kernel) ⟨Nat.le_of_ble_eq_true rfl, Nat.le_of_ble_eq_true rfl⟩) (z_preV hN hK hP hD (zk_lt (rfl : zk 10 = 4) (by decide)) (zx_4 (rfl : zk 10 = 4)) rfl) rfl rfl hl.1 rfl (lv_room (Nat.le_of_ble_eq_true rfl)) dX9_as_10 ⟨Nat.zero_le _, Nat.zero_le _⟩) hS (fun H locs hP hD hS => ?_)
  refine lv_if_ne (tgt := 18) hx hb dX9_as_13 (by decide) (fun b5 => ?_) (fun b5 => ?_)
  · have hF := zif_f b5 hF
    refine lv_iload_n hx hb dX9_as_18 rfl (lv_at hl 2 rfl) ?_
    refine lv_iconst (v := (3 : Int32)) hx hb dX9_as_19 (by decide) ?_
    obtain ⟨r7, σ6, hC8, hF⟩ := zbd_inv hF
    refine z_calli (va_runS (As := [.int p2, .int (3 : Int32)]) (rest := []) ⟨hx, hb, hml, hown, hts⟩ (CX9_isBelow l D cI cS cP ad A n σ2 σ6 r7 p2 (3 : Int32) hC8) (va_cwS 2 hts gX9_as_X9_isBelow rfl rfl rfl (by decide +kernel) ⟨Nat.le_of_ble_eq_true rfl, Nat.le_of_ble_eq_true rfl⟩) (z_preS hN hK hP hD) rfl rfl hl.1 rfl (lv_room (Nat.le_of_ble_eq_true rfl)) dX9_as_20 ⟨Nat.zero_le _, Nat.zero_le _⟩) hS (fun H locs hP hD hS => ?_)
    refine lv_if_ne (tgt := 29) hx hb dX9_as_23 (by decide) (fun b9 => ?_) (fun b9 => ?_)
    · have hF := zif_f b9 hF
      refine lv_aload_n hx hb dX9_as_29 rfl (lv_at hl 0 rfl) ?_
      refine z_get (ci := 8) (C := RX9) (T := TX9) (N := 11) hx hb hts iX9_as_X9 hown hK hP (zk_lt (rfl : zk 0 = 8) (by decide)) (zx_8 (rfl : zk 0 = 8)) rfl 1 (by decide) kX9_as_f20 rfl (v := .ref (ad 10)) rfl dX9_as_30 ?_
      refine z_get (ci := 4) (C := RX4) (T := TX4) (N := 3) hx hb hts iX9_as_X4 hown hK hP (zk_lt (rfl : zk 10 = 4) (by decide)) (zx_4 (rfl : zk 10 = 4)) rfl 1 (by decide) kX9_as_f108 rfl (v := .ref (ad 12)) rfl dX9_as_33 ?_
      refine lv_iload_n hx hb dX9_as_36 rfl (lv_at hl 1 rfl) ?_
      obtain ⟨g10, hF⟩ := zgd_inv hF
      refine z_aldq hx hb hK hP 2 (zk_lt (zk_4p (rfl : zk 10 = 4)) (by decide)) (zx_22 (zk_4p (rfl : zk 10 = 4))) rfl g10 dX9_as_37 ?_
      refine z_get (ci := 2) (C := RX2) (T := TX2) (N := 4) hx hb hts iX9_as_X2 hown hK hP (zk_lt (zk_22p (zk_4p (rfl : zk 10 = 4)) g10) (by decide)) (zx_2 (zk_22p (zk_4p (rfl : zk 10 = 4)) g10)) rfl 0 (by decide) kX9_as_f112 rfl (v := .int (σ6 (13 + (p1 : Int32).toNatClampNeg) 0)) rfl dX9_as_38 ?_
      refine lv_iload_n hx hb dX9_as_41 rfl (lv_at hl 2 rfl) ?_
      refine lv_icmp_lt (tgt := 49) hx hb dX9_as_42 (by decide) (fun b11 => ?_) (fun b11 => ?_)
      · have hF := zif_t b11 hF
        refine lv_aload_n hx hb dX9_as_49 rfl (lv_at hl 0 rfl) ?_
        refine lv_iconst (v := (2 : Int32)) hx hb dX9_as_50 (by decide) ?_
        obtain ⟨r13, σ12, hC14, hF⟩ := zbd_inv hF
        refine z_calli (va_runV (As := [.int (2 : Int32)]) (rest := []) ⟨hx, hb, hml, hown, hts⟩ (CX9_failed l D cI cS cP ad A n σ6 σ12 r13 (2 : Int32) hC14) (cwV 1 hts gX9_as_X9_failed rfl rfl rfl (by decide +kernel) ⟨Nat.le_of_ble_eq_true rfl, Nat.le_of_ble_eq_true rfl⟩) (z_preV hN hK hP hD (zk_lt (rfl : zk 0 = 8) (by decide)) (zx_8 (rfl : zk 0 = 8)) rfl) rfl rfl hl.1 rfl (lv_room (Nat.le_of_ble_eq_true rfl)) dX9_as_51 ⟨Nat.zero_le _, Nat.zero_le _⟩) hS (fun H locs hP hD hS => ?_)
        exact z_iret hx hb hr hlocks hN hK hP hD hS hF dX9_as_54
      · have hF := zif_f b11 hF
        refine lv_iconst (v := (1 : Int32)) hx hb dX9_as_45 (by decide) ?_
        refine lv_goto (tgt := 54) hx hb dX9_as_46 (by decide) ?_
        exact z_iret hx hb hr hlocks hN hK hP hD hS hF dX9_as_54
    · have hF := zif_t b9 hF
      refine lv_bipush (v := (-2 : Int32)) hx hb dX9_as_26 (by decide) ?_
      exact z_iret hx hb hr hlocks hN hK hP hD hS hF dX9_as_28
  · have hF := zif_t b5 hF
    refine lv_iconst (v := (-1 : Int32)) hx hb dX9_as_16 (by decide) ?_
    exact z_iret hx hb hr hlocks hN hK hP hD hS hF dX9_as_17
theorem kX9_trace_f58 : Cond.fieldLink RX9 58 "LeastAsked" "bodies" "LLeastAsked$Bodies;" ∈ wsX9_trace := by decide +kernel
theorem kX9_trace_f246 : Cond.fieldLink RX9 246 "LeastAsked$Bodies" "left" "I" ∈ wsX9_trace := by decide +kernel
theorem iX9_trace_X9 : ∀ w ∈ u_ws RX9 TX9 11, w ∈ wsX9_trace := fun _ h => List.mem_cons_of_mem _ (List.mem_append_left _ (List.mem_append_right _ h))
theorem iX9_trace_X0 : ∀ w ∈ u_ws RX0 TX0 1, w ∈ wsX9_trace := fun _ h => List.mem_cons_of_mem _ (List.mem_append_right _ h)
set_option maxHeartbeats 4000000 in
set_option maxRecDepth 100000 in
theorem CX9_trace (l : Launch) (D : va_G) (cI cS cP : ClassId) (ad : Nat → Nat) (A : Nat → Prop) (n : Nat) (σ σ' : zMem) (r0 : Int32) (hF : FX9_trace n σ = some (r0, σ')) : Met l yX9_trace wsX9_trace ({ frames := 0, cells := 0, slots := 0, locals := 0 } : Room) (va_Pc [.ref (ad 0)] (zB (zx cI cS cP ad) 41 ad D (zty cI cS cP) A σ)) (va_Qi (fun r u => r = r0 ∧ u = σ') (zB (zx cI cS cP ad) 41 ad D (zty cI cS cP) A) A) 0 0 A := by
  refine Met.ofW (cc := cX9_trace) (maxL := 1) (ret := (some .int)) (by decide) rfl ?_
  intro p e s m args below meth c s₁ B hml hv
  obtain ⟨rfl, hP, hK, hD, hN⟩ := hv
  have hx := B.exec
  have hb := B.bytes
  have hr := B.returns
  have hts := atoms_spec (ws := wsX9_trace) B.pre
  have hown : s.vm.findClass RX9 = some m.cls := findClass_of_methodNamed B.named
  have hlocks := B.notSynchronized
  have hS : va_S A s.heap s.heap [] := va_S.rf
  have hl := lv_entry ([.ref (ad 0)]) (n := 1) (Nat.le_of_ble_eq_true rfl)
  rw [lg_entry_eq]
  generalize (lg_sl ([.ref (ad 0)]) ++ List.replicate (1 - (lg_sl ([.ref (ad 0)])).length) Slot.unset).toArray = ls at hl ⊢
  have hl : lv_has ls 1 [(0, .ref (ad 0))] := hl
  clear B
  unfold FX9_trace at hF
  refine lv_aload_n hx hb dX9_trace_0 rfl (lv_at hl 0 rfl) ?_
  refine z_get (ci := 8) (C := RX9) (T := TX9) (N := 11) hx hb hts iX9_trace_X9 hown hK hP (zk_lt (rfl : zk 0 = 8) (by decide)) (zx_8 (rfl : zk 0 = 8)) rfl 7 (by decide) kX9_trace_f58 rfl (v := .ref (ad 40)) rfl dX9_trace_1 ?_
  refine z_get (ci := 0) (C := RX0) (T := TX0) (N := 1) hx hb hts iX9_trace_X0 hown hK hP (zk_lt (rfl : zk 40 = 0) (by decide)) (zx_0 (rfl : zk 40 = 0)) rfl 0 (by decide) kX9_trace_f246 rfl (v := .int (σ 40 0)) rfl dX9_trace_4 ?_
  exact z_iret hx hb hr hlocks hN hK hP hD hS hF dX9_trace_7
theorem kX9_fault_f69 : Cond.fieldLink RX9 69 "LeastAsked" "lastFault" "I" ∈ wsX9_fault := by decide +kernel
theorem iX9_fault_X9 : ∀ w ∈ u_ws RX9 TX9 11, w ∈ wsX9_fault := fun _ h => List.mem_cons_of_mem _ (List.mem_append_right _ h)
set_option maxHeartbeats 4000000 in
set_option maxRecDepth 100000 in
theorem CX9_fault (l : Launch) (D : va_G) (cI cS cP : ClassId) (ad : Nat → Nat) (A : Nat → Prop) (n : Nat) (σ σ' : zMem) (r0 : Int32) (hF : FX9_fault n σ = some (r0, σ')) : Met l yX9_fault wsX9_fault ({ frames := 0, cells := 0, slots := 0, locals := 0 } : Room) (va_Pc [.ref (ad 0)] (zB (zx cI cS cP ad) 41 ad D (zty cI cS cP) A σ)) (va_Qi (fun r u => r = r0 ∧ u = σ') (zB (zx cI cS cP ad) 41 ad D (zty cI cS cP) A) A) 0 0 A := by
  refine Met.ofW (cc := cX9_fault) (maxL := 1) (ret := (some .int)) (by decide) rfl ?_
  intro p e s m args below meth c s₁ B hml hv
  obtain ⟨rfl, hP, hK, hD, hN⟩ := hv
  have hx := B.exec
  have hb := B.bytes
  have hr := B.returns
  have hts := atoms_spec (ws := wsX9_fault) B.pre
  have hown : s.vm.findClass RX9 = some m.cls := findClass_of_methodNamed B.named
  have hlocks := B.notSynchronized
  have hS : va_S A s.heap s.heap [] := va_S.rf
  have hl := lv_entry ([.ref (ad 0)]) (n := 1) (Nat.le_of_ble_eq_true rfl)
  rw [lg_entry_eq]
  generalize (lg_sl ([.ref (ad 0)]) ++ List.replicate (1 - (lg_sl ([.ref (ad 0)])).length) Slot.unset).toArray = ls at hl ⊢
  have hl : lv_has ls 1 [(0, .ref (ad 0))] := hl
  clear B
  unfold FX9_fault at hF
  refine lv_aload_n hx hb dX9_fault_0 rfl (lv_at hl 0 rfl) ?_
  refine z_get (ci := 8) (C := RX9) (T := TX9) (N := 11) hx hb hts iX9_fault_X9 hown hK hP (zk_lt (rfl : zk 0 = 8) (by decide)) (zx_8 (rfl : zk 0 = 8)) rfl 10 (by decide) kX9_fault_f69 rfl (v := .int (σ 0 10)) rfl dX9_fault_1 ?_
  exact z_iret hx hb hr hlocks hN hK hP hD hS hF dX9_fault_4
theorem kX9_many_f20 : Cond.fieldLink RX9 20 "LeastAsked" "now" "LLeastAsked$Province;" ∈ wsX9_many := by decide +kernel
theorem kX9_many_f104 : Cond.fieldLink RX9 104 "LeastAsked$Province" "count" "I" ∈ wsX9_many := by decide +kernel
theorem kX9_many_f62 : Cond.fieldLink RX9 62 "LeastAsked" "questions" "I" ∈ wsX9_many := by decide +kernel
theorem kX9_many_f66 : Cond.fieldLink RX9 66 "LeastAsked" "brought" "I" ∈ wsX9_many := by decide +kernel
theorem kX9_many_f51 : Cond.fieldLink RX9 51 "LeastAsked" "readings" "LLeastAsked$Readings;" ∈ wsX9_many := by decide +kernel
theorem kX9_many_f101 : Cond.fieldLink RX9 101 "LeastAsked$Readings" "count" "I" ∈ wsX9_many := by decide +kernel
theorem iX9_many_X9 : ∀ w ∈ u_ws RX9 TX9 11, w ∈ wsX9_many := fun _ h => List.mem_cons_of_mem _ (List.mem_append_left _ (List.mem_append_left _ (List.mem_append_right _ h)))
theorem iX9_many_X4 : ∀ w ∈ u_ws RX4 TX4 3, w ∈ wsX9_many := fun _ h => List.mem_cons_of_mem _ (List.mem_append_left _ (List.mem_append_right _ h))
theorem iX9_many_X5 : ∀ w ∈ u_ws RX5 TX5 4, w ∈ wsX9_many := fun _ h => List.mem_cons_of_mem _ (List.mem_append_right _ h)
set_option maxHeartbeats 4000000 in
set_option maxRecDepth 100000 in
theorem CX9_many (l : Launch) (D : va_G) (cI cS cP : ClassId) (ad : Nat → Nat) (A : Nat → Prop) (n : Nat) (σ σ' : zMem) (r0 : Int32) (p1 : Int32) (hF : FX9_many n σ p1 = some (r0, σ')) : Met l yX9_many wsX9_many ({ frames := 0, cells := 0, slots := 0, locals := 0 } : Room) (va_Pc [.ref (ad 0), .int p1] (zB (zx cI cS cP ad) 41 ad D (zty cI cS cP) A σ)) (va_Qi (fun r u => r = r0 ∧ u = σ') (zB (zx cI cS cP ad) 41 ad D (zty cI cS cP) A) A) 0 0 A := by
  refine Met.ofW (cc := cX9_many) (maxL := 2) (ret := (some .int)) (by decide) rfl ?_
  intro p e s m args below meth c s₁ B hml hv
  obtain ⟨rfl, hP, hK, hD, hN⟩ := hv
  have hx := B.exec
  have hb := B.bytes
  have hr := B.returns
  have hts := atoms_spec (ws := wsX9_many) B.pre
  have hown : s.vm.findClass RX9 = some m.cls := findClass_of_methodNamed B.named
  have hlocks := B.notSynchronized
  have hS : va_S A s.heap s.heap [] := va_S.rf
  have hl := lv_entry ([.ref (ad 0), .int p1]) (n := 2) (Nat.le_of_ble_eq_true rfl)
  rw [lg_entry_eq]
  generalize (lg_sl ([.ref (ad 0), .int p1]) ++ List.replicate (2 - (lg_sl ([.ref (ad 0), .int p1])).length) Slot.unset).toArray = ls at hl ⊢
  have hl : lv_has ls 2 [(0, .ref (ad 0)), (1, .int p1)] := hl
  clear B
  unfold FX9_many at hF
  refine lv_iload_n hx hb dX9_many_0 rfl (lv_at hl 1 rfl) ?_
  by_cases b1 : p1 = (0 : Int32)
  · have hF := zif_t b1 hF
    refine lv_tableIn (tgt := 32) hx hb dX9_many_1 (by rw [b1]; decide) (by rw [b1]; decide) (by rw [b1]; rfl) (by decide) ?_
    refine lv_aload_n hx hb dX9_many_32 rfl (lv_at hl 0 rfl) ?_
    refine z_get (ci := 8) (C := RX9) (T := TX9) (N := 11) hx hb hts iX9_many_X9 hown hK hP (zk_lt (rfl : zk 0 = 8) (by decide)) (zx_8 (rfl : zk 0 = 8)) rfl 1 (by decide) kX9_many_f20 rfl (v := .ref (ad 10)) rfl dX9_many_33 ?_
    refine z_get (ci := 4) (C := RX4) (T := TX4) (N := 3) hx hb hts iX9_many_X4 hown hK hP (zk_lt (rfl : zk 10 = 4) (by decide)) (zx_4 (rfl : zk 10 = 4)) rfl 2 (by decide) kX9_many_f104 rfl (v := .int (σ 10 2)) rfl dX9_many_36 ?_
    exact z_iret hx hb hr hlocks hN hK hP hD hS hF dX9_many_39
  · have hF := zif_f b1 hF
    by_cases b2 : p1 = (1 : Int32)
    · have hF := zif_t b2 hF
      refine lv_tableIn (tgt := 40) hx hb dX9_many_1 (by rw [b2]; decide) (by rw [b2]; decide) (by rw [b2]; rfl) (by decide) ?_
      refine lv_aload_n hx hb dX9_many_40 rfl (lv_at hl 0 rfl) ?_
      refine z_get (ci := 8) (C := RX9) (T := TX9) (N := 11) hx hb hts iX9_many_X9 hown hK hP (zk_lt (rfl : zk 0 = 8) (by decide)) (zx_8 (rfl : zk 0 = 8)) rfl 8 (by decide) kX9_many_f62 rfl (v := .int (σ 0 8)) rfl dX9_many_41 ?_
      exact z_iret hx hb hr hlocks hN hK hP hD hS hF dX9_many_44
    · have hF := zif_f b2 hF
      by_cases b3 : p1 = (2 : Int32)
      · have hF := zif_t b3 hF
        refine lv_tableIn (tgt := 45) hx hb dX9_many_1 (by rw [b3]; decide) (by rw [b3]; decide) (by rw [b3]; rfl) (by decide) ?_
        refine lv_aload_n hx hb dX9_many_45 rfl (lv_at hl 0 rfl) ?_
        refine z_get (ci := 8) (C := RX9) (T := TX9) (N := 11) hx hb hts iX9_many_X9 hown hK hP (zk_lt (rfl : zk 0 = 8) (by decide)) (zx_8 (rfl : zk 0 = 8)) rfl 9 (by decide) kX9_many_f66 rfl (v := .int (σ 0 9)) rfl dX9_many_46 ?_
        exact z_iret hx hb hr hlocks hN hK hP hD hS hF dX9_many_49
      · have hF := zif_f b3 hF
        by_cases b4 : p1 = (3 : Int32)
        · have hF := zif_t b4 hF
          refine lv_tableIn (tgt := 50) hx hb dX9_many_1 (by rw [b4]; decide) (by rw [b4]; decide) (by rw [b4]; rfl) (by decide) ?_
          refine lv_aload_n hx hb dX9_many_50 rfl (lv_at hl 0 rfl) ?_
          refine z_get (ci := 8) (C := RX9) (T := TX9) (N := 11) hx hb hts iX9_many_X9 hown hK hP (zk_lt (rfl : zk 0 = 8) (by decide)) (zx_8 (rfl : zk 0 = 8)) rfl 6 (by decide) kX9_many_f51 rfl (v := .ref (ad 36)) rfl dX9_many_51 ?_
          refine z_get (ci := 5) (C := RX5) (T := TX5) (N := 4) hx hb hts iX9_many_X5 hown hK hP (zk_lt (rfl : zk 36 = 5) (by decide)) (zx_5 (rfl : zk 36 = 5)) rfl 3 (by decide) kX9_many_f101 rfl (v := .int (σ 36 3)) rfl dX9_many_54 ?_
          exact z_iret hx hb hr hlocks hN hK hP hD hS hF dX9_many_57
        · have hF := zif_f b4 hF
          refine lv_tableOut (tgt := 58) hx hb dX9_many_1 (by have nb1 := lv_neT b1 (a := 0) (by decide); have nb2 := lv_neT b2 (a := 1) (by decide); have nb3 := lv_neT b3 (a := 2) (by decide); have nb4 := lv_neT b4 (a := 3) (by decide); omega) (by decide) ?_
          refine lv_bipush (v := (-2 : Int32)) hx hb dX9_many_58 (by decide) ?_
          exact z_iret hx hb hr hlocks hN hK hP hD hS hF dX9_many_60
