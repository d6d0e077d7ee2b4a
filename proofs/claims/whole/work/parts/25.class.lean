/-! ===== contracts: X9_back, X9_possible, X9_knowings, X9_wits, X9_kinds, X9_worths, X9_waysToBring, X9_commonDivisor, X9_odds, X9_sheet, X9_lose, X9_put, X9_cell, X9_copy ===== -/
theorem kX9_back_f51 : Cond.fieldLink RX9 51 "LeastAsked" "readings" "LLeastAsked$Readings;" ∈ wsX9_back := by decide +kernel
theorem kX9_back_f101 : Cond.fieldLink RX9 101 "LeastAsked$Readings" "count" "I" ∈ wsX9_back := by decide +kernel
theorem iX9_back_X9 : ∀ w ∈ u_ws RX9 TX9 11, w ∈ wsX9_back := fun _ h => List.mem_cons_of_mem _ (List.mem_append_left _ (List.mem_append_right _ h))
theorem iX9_back_X5 : ∀ w ∈ u_ws RX5 TX5 4, w ∈ wsX9_back := fun _ h => List.mem_cons_of_mem _ (List.mem_append_right _ h)
set_option maxHeartbeats 4000000 in
set_option maxRecDepth 100000 in
theorem CX9_back (l : Launch) (D : va_G) (cI cS cP : ClassId) (ad : Nat → Nat) (A : Nat → Prop) (n : Nat) (σ σ' : zMem) (r0 : Int32) (p1 : Int32) (hF : FX9_back n σ p1 = some (r0, σ')) : Met l yX9_back wsX9_back ({ frames := 0, cells := 0, slots := 0, locals := 0 } : Room) (va_Pc [.ref (ad 0), .int p1] (zB (zx cI cS cP ad) 41 ad D (zty cI cS cP) A σ)) (va_Qi (fun r u => r = r0 ∧ u = σ') (zB (zx cI cS cP ad) 41 ad D (zty cI cS cP) A) A) 0 0 A := by
  refine Met.ofW (cc := cX9_back) (maxL := 2) (ret := (some .int)) (by decide) rfl ?_
  intro p e s m args below meth c s₁ B hml hv
  obtain ⟨rfl, hP, hK, hD, hN⟩ := hv
  have hx := B.exec
  have hb := B.bytes
  have hr := B.returns
  have hts := atoms_spec (ws := wsX9_back) B.pre
  have hown : s.vm.findClass RX9 = some m.cls := findClass_of_methodNamed B.named
  have hlocks := B.notSynchronized
  have hS : va_S A s.heap s.heap [] := va_S.rf
  have hl := lv_entry ([.ref (ad 0), .int p1]) (n := 2) (Nat.le_of_ble_eq_true rfl)
  rw [lg_entry_eq]
  generalize (lg_sl ([.ref (ad 0), .int p1]) ++ List.replicate (2 - (lg_sl ([.ref (ad 0), .int p1])).length) Slot.unset).toArray = ls at hl ⊢
  have hl : lv_has ls 2 [(0, .ref (ad 0)), (1, .int p1)] := hl
  clear B
  unfold FX9_back at hF
  refine lv_iload_n hx hb dX9_back_0 rfl (lv_at hl 1 rfl) ?_
  refine lv_if_lt (tgt := 15) hx hb dX9_back_1 (by decide) (fun b1 => ?_) (fun b1 => ?_)
  · have hF := zif_t b1 hF
    refine lv_bipush (v := (-2 : Int32)) hx hb dX9_back_15 (by decide) ?_
    exact z_iret hx hb hr hlocks hN hK hP hD hS hF dX9_back_17
  · have hF := zif_f b1 hF
    refine lv_iload_n hx hb dX9_back_4 rfl (lv_at hl 1 rfl) ?_
    refine lv_aload_n hx hb dX9_back_5 rfl (lv_at hl 0 rfl) ?_
    refine z_get (ci := 8) (C := RX9) (T := TX9) (N := 11) hx hb hts iX9_back_X9 hown hK hP (zk_lt (rfl : zk 0 = 8) (by decide)) (zx_8 (rfl : zk 0 = 8)) rfl 6 (by decide) kX9_back_f51 rfl (v := .ref (ad 36)) rfl dX9_back_6 ?_
    refine z_get (ci := 5) (C := RX5) (T := TX5) (N := 4) hx hb hts iX9_back_X5 hown hK hP (zk_lt (rfl : zk 36 = 5) (by decide)) (zx_5 (rfl : zk 36 = 5)) rfl 3 (by decide) kX9_back_f101 rfl (v := .int (σ 36 3)) rfl dX9_back_9 ?_
    refine lv_icmp_le (tgt := 18) hx hb dX9_back_12 (by decide) (fun b2 => ?_) (fun b2 => ?_)
    · have hF := zif_t b2 hF
      refine lv_aload_n hx hb dX9_back_18 rfl (lv_at hl 0 rfl) ?_
      refine z_get (ci := 8) (C := RX9) (T := TX9) (N := 11) hx hb hts iX9_back_X9 hown hK hP (zk_lt (rfl : zk 0 = 8) (by decide)) (zx_8 (rfl : zk 0 = 8)) rfl 6 (by decide) kX9_back_f51 rfl (v := .ref (ad 36)) rfl dX9_back_19 ?_
      refine lv_dup hx hb dX9_back_22 rfl ?_
      refine z_get (ci := 5) (C := RX5) (T := TX5) (N := 4) hx hb hts iX9_back_X5 hown hK hP (zk_lt (rfl : zk 36 = 5) (by decide)) (zx_5 (rfl : zk 36 = 5)) rfl 3 (by decide) kX9_back_f101 rfl (v := .int (σ 36 3)) rfl dX9_back_23 ?_
      refine lv_iload_n hx hb dX9_back_26 rfl (lv_at hl 1 rfl) ?_
      refine lv_isub hx hb dX9_back_27 ?_
      obtain ⟨σ3, eσ3, hF⟩ := zlet_inv hF
      refine z_put (ci := 5) (C := RX5) (T := TX5) (N := 4) hx hb hts iX9_back_X5 tyX5 tyX5_ok nmX5 hown hK hP hD hS (zk_lt (rfl : zk 36 = 5) (by decide)) (zx_5 (rfl : zk 36 = 5)) rfl 3 (by decide) kX9_back_f101 rfl rfl rfl rfl (Nat.le_of_ble_eq_true rfl) (zx_5 (rfl : zk 36 = 5)) dX9_back_28 (fun H locs hP hD hS => ?_)
      have hP : va_P D vwCl (zW (zx cI cS cP ad) 41 ad σ3) H := by rw [eσ3]; exact hP
      have hD : va_D A (zW (zx cI cS cP ad) 41 ad σ3) := by rw [eσ3]; exact hD
      refine lv_aload_n hx hb dX9_back_31 rfl (lv_at hl 0 rfl) ?_
      refine z_get (ci := 8) (C := RX9) (T := TX9) (N := 11) hx hb hts iX9_back_X9 hown hK hP (zk_lt (rfl : zk 0 = 8) (by decide)) (zx_8 (rfl : zk 0 = 8)) rfl 6 (by decide) kX9_back_f51 rfl (v := .ref (ad 36)) rfl dX9_back_32 ?_
      refine z_get (ci := 5) (C := RX5) (T := TX5) (N := 4) hx hb hts iX9_back_X5 hown hK hP (zk_lt (rfl : zk 36 = 5) (by decide)) (zx_5 (rfl : zk 36 = 5)) rfl 3 (by decide) kX9_back_f101 rfl (v := .int (σ3 36 3)) rfl dX9_back_35 ?_
      exact z_iret hx hb hr hlocks hN hK hP hD hS hF dX9_back_38
    · have hF := zif_f b2 hF
      refine lv_bipush (v := (-2 : Int32)) hx hb dX9_back_15 (by decide) ?_
      exact z_iret hx hb hr hlocks hN hK hP hD hS hF dX9_back_17
theorem kX9_possible_f24 : Cond.fieldLink RX9 24 "LeastAsked" "trial" "LLeastAsked$Province;" ∈ wsX9_possible := by decide +kernel
theorem kX9_possible_f51 : Cond.fieldLink RX9 51 "LeastAsked" "readings" "LLeastAsked$Readings;" ∈ wsX9_possible := by decide +kernel
theorem kX9_possible_f20 : Cond.fieldLink RX9 20 "LeastAsked" "now" "LLeastAsked$Province;" ∈ wsX9_possible := by decide +kernel
theorem iX9_possible_X9 : ∀ w ∈ u_ws RX9 TX9 11, w ∈ wsX9_possible := fun _ h => List.mem_cons_of_mem _ (List.mem_append_left _ (List.mem_append_left _ (List.mem_append_left _ (List.mem_append_right _ h))))
set_option maxHeartbeats 4000000 in
set_option maxRecDepth 100000 in
theorem CX9_possible (l : Launch) (D : va_G) (cI cS cP : ClassId) (ad : Nat → Nat) (A : Nat → Prop) (n : Nat) (σ σ' : zMem) (r0 : Int32) (p1 : Int32) (p2 : Int32) (p3 : Int32) (hF : FX9_possible n σ p1 p2 p3 = some (r0, σ')) : Met l yX9_possible wsX9_possible ({ frames := 3, cells := 0, slots := 0, locals := 66 } : Room) (va_Pc [.ref (ad 0), .int p1, .int p2, .int p3] (zB (zx cI cS cP ad) 41 ad D (zty cI cS cP) A σ)) (va_Qi (fun r u => r = r0 ∧ u = σ') (zB (zx cI cS cP ad) 41 ad D (zty cI cS cP) A) A) 0 0 A := by
  refine Met.ofW (cc := cX9_possible) (maxL := 6) (ret := (some .int)) (by decide) rfl ?_
  intro p e s m args below meth c s₁ B hml hv
  obtain ⟨rfl, hP, hK, hD, hN⟩ := hv
  have hx := B.exec
  have hb := B.bytes
  have hr := B.returns
  have hts := atoms_spec (ws := wsX9_possible) B.pre
  have hown : s.vm.findClass RX9 = some m.cls := findClass_of_methodNamed B.named
  have hlocks := B.notSynchronized
  have hS : va_S A s.heap s.heap [] := va_S.rf
  have hl := lv_entry ([.ref (ad 0), .int p1, .int p2, .int p3]) (n := 6) (Nat.le_of_ble_eq_true rfl)
  rw [lg_entry_eq]
  generalize (lg_sl ([.ref (ad 0), .int p1, .int p2, .int p3]) ++ List.replicate (6 - (lg_sl ([.ref (ad 0), .int p1, .int p2, .int p3])).length) Slot.unset).toArray = ls at hl ⊢
  have hl : lv_has ls 6 [(0, .ref (ad 0)), (1, .int p1), (2, .int p2), (3, .int p3)] := hl
  clear B
  have hB17 : ∀ (f17 : Nat) (σ : zMem) (l1 : Int32) (l2 : Int32) (l3 : Int32) (l4 : Int32) (l5 : Int32), ∀ (H : Heap) (locs : List Loc) (ls : Array Slot), zlp (LX9_possible_17 n) f17 (σ, l1, l2, l3, l4, l5) = some (r0, σ') → va_P D vwCl (zW (zx cI cS cP ad) 41 ad σ) H → va_D A (zW (zx cI cS cP ad) 41 ad σ) → va_S A s.heap H locs → lv_has ls 6 [(0, .ref (ad 0)), (1, .int l1), (2, .int l2), (3, .int l3), (4, .int l4), (5, .int l5)] → W p l e (headSpec wsX9_possible ({ frames := 3, cells := 0, slots := 0, locals := 66 } : Room)).room s m ([.ref (ad 0), .int p1, .int p2, .int p3] : List Value).toArray below meth c H locs 0 0 (MQ below (va_Qi (fun r u => r = r0 ∧ u = σ') (zB (zx cI cS cP ad) 41 ad D (zty cI cS cP) A) A) ([.ref (ad 0), .int p1, .int p2, .int p3] : List Value).toArray s 0 0 A) (F0 m 17 ls []) := by
    intro f17
    induction f17 with
    | zero => intro σ l1 l2 l3 l4 l5 H locs ls hF hP hD hS hl; exact (zlp_0 hF).elim
    | succ f17 ih17 =>
      intro σ l1 l2 l3 l4 l5 H locs ls hF hP hD hS hl
      have hF : LBX9_possible_17 n   (zlp (LX9_possible_17 n) f17) σ l1 l2 l3 l4 l5 = some (r0, σ') := hF
      unfold LBX9_possible_17 at hF
      refine lv_iload hx hb dX9_possible_17 (lv_at hl 5 rfl) ?_
      refine lv_iload_n hx hb dX9_possible_19 rfl (lv_at hl 3 rfl) ?_
      refine lv_icmp_ge (tgt := 63) hx hb dX9_possible_20 (by decide) (fun b1 => ?_) (fun b1 => ?_)
      · have hF := zif_t b1 hF
        refine lv_iload hx hb dX9_possible_63 (lv_at hl 4 rfl) ?_
        exact z_iret hx hb hr hlocks hN hK hP hD hS hF dX9_possible_65
      · have hF := zif_f b1 hF
        refine lv_aload_n hx hb dX9_possible_23 rfl (lv_at hl 0 rfl) ?_
        refine z_get (ci := 8) (C := RX9) (T := TX9) (N := 11) hx hb hts iX9_possible_X9 hown hK hP (zk_lt (rfl : zk 0 = 8) (by decide)) (zx_8 (rfl : zk 0 = 8)) rfl 2 (by decide) kX9_possible_f24 rfl (v := .ref (ad 19)) rfl dX9_possible_24 ?_
        refine lv_iload_n hx hb dX9_possible_27 rfl (lv_at hl 1 rfl) ?_
        refine lv_iload_n hx hb dX9_possible_28 rfl (lv_at hl 2 rfl) ?_
        refine lv_iload hx hb dX9_possible_29 (lv_at hl 5 rfl) ?_
        obtain ⟨r3, σ2, hC4, hF⟩ := zbd_inv hF
        refine z_callv (va_runV (As := [.int l1, .int l2, .int l5]) (rest := []) ⟨hx, hb, hml, hown, hts⟩ (CX4_suppose l D cI cS cP ad A n σ σ2 r3 19 l1 l2 l5 (rfl : zk 19 = 4) hC4) (cwV 3 hts gX9_possible_X4_suppose rfl rfl rfl (by decide +kernel) ⟨Nat.le_of_ble_eq_true rfl, Nat.le_of_ble_eq_true rfl⟩) (z_preV hN hK hP hD (zk_lt (rfl : zk 19 = 4) (by decide)) (zx_4 (rfl : zk 19 = 4)) rfl) rfl rfl hl.1 rfl (lv_room (Nat.le_of_ble_eq_true rfl)) dX9_possible_31 ⟨Nat.zero_le _, Nat.zero_le _⟩) hS (fun H locs hP hD hS => ?_)
        refine lv_aload_n hx hb dX9_possible_34 rfl (lv_at hl 0 rfl) ?_
        refine z_get (ci := 8) (C := RX9) (T := TX9) (N := 11) hx hb hts iX9_possible_X9 hown hK hP (zk_lt (rfl : zk 0 = 8) (by decide)) (zx_8 (rfl : zk 0 = 8)) rfl 6 (by decide) kX9_possible_f51 rfl (v := .ref (ad 36)) rfl dX9_possible_35 ?_
        refine lv_aload_n hx hb dX9_possible_38 rfl (lv_at hl 0 rfl) ?_
        refine z_get (ci := 8) (C := RX9) (T := TX9) (N := 11) hx hb hts iX9_possible_X9 hown hK hP (zk_lt (rfl : zk 0 = 8) (by decide)) (zx_8 (rfl : zk 0 = 8)) rfl 2 (by decide) kX9_possible_f24 rfl (v := .ref (ad 19)) rfl dX9_possible_39 ?_
        obtain ⟨r6, σ5, hC7, hF⟩ := zbd_inv hF
        refine z_calli (va_runV (As := [.ref (ad 19)]) (rest := []) ⟨hx, hb, hml, hown, hts⟩ (CX5_allSo l D cI cS cP ad A n σ2 σ5 r6 36 19 (rfl : zk 36 = 5) (rfl : zk 19 = 4) hC7) (cwV 1 hts gX9_possible_X5_allSo rfl rfl rfl (by decide +kernel) ⟨Nat.le_of_ble_eq_true rfl, Nat.le_of_ble_eq_true rfl⟩) (z_preV hN hK hP hD (zk_lt (rfl : zk 36 = 5) (by decide)) (zx_5 (rfl : zk 36 = 5)) rfl) rfl rfl hl.1 rfl (lv_room (Nat.le_of_ble_eq_true rfl)) dX9_possible_42 ⟨Nat.zero_le _, Nat.zero_le _⟩) hS (fun H locs hP hD hS => ?_)
        refine lv_if_eq (tgt := 57) hx hb dX9_possible_45 (by decide) (fun b8 => ?_) (fun b8 => ?_)
        · have hF := zif_t b8 hF
          refine lv_iinc (v := (l5 + (1 : Int32))) (lv' := [(5, .int (l5 + (1 : Int32))), (0, .ref (ad 0)), (1, .int l1), (2, .int l2), (3, .int l3), (4, .int l4)]) hx hb dX9_possible_57 hl (k := 5) rfl rfl (by decide) rfl (fun ls hl => ?_)
          refine lv_goto (tgt := 17) hx hb dX9_possible_60 (by decide) ?_
          exact ih17 σ5 l1 l2 l3 l4 (l5 + (1 : Int32)) _ _ _ hF hP hD hS (lv_sub hl [1, 2, 3, 4, 5, 0] rfl)
        · have hF := zif_f b8 hF
          refine lv_iload hx hb dX9_possible_48 (lv_at hl 4 rfl) ?_
          refine lv_iconst (v := (1 : Int32)) hx hb dX9_possible_50 (by decide) ?_
          refine lv_iload hx hb dX9_possible_51 (lv_at hl 5 rfl) ?_
          refine lv_ishl hx hb dX9_possible_53 ?_
          refine lv_ior hx hb dX9_possible_54 ?_
          refine lv_istore (lv' := [(4, .int (l4 ||| ((1 : Int32) <<< (l5 &&& 31)))), (0, .ref (ad 0)), (1, .int l1), (2, .int l2), (3, .int l3), (5, .int l5)]) hx hb dX9_possible_55 hl (by decide) rfl (fun ls hl => ?_)
          refine lv_iinc (v := (l5 + (1 : Int32))) (lv' := [(5, .int (l5 + (1 : Int32))), (4, .int (l4 ||| ((1 : Int32) <<< (l5 &&& 31)))), (0, .ref (ad 0)), (1, .int l1), (2, .int l2), (3, .int l3)]) hx hb dX9_possible_57 hl (k := 5) rfl rfl (by decide) rfl (fun ls hl => ?_)
          refine lv_goto (tgt := 17) hx hb dX9_possible_60 (by decide) ?_
          exact ih17 σ5 l1 l2 l3 (l4 ||| ((1 : Int32) <<< (l5 &&& 31))) (l5 + (1 : Int32)) _ _ _ hF hP hD hS (lv_sub hl [2, 3, 4, 5, 1, 0] rfl)
  unfold FX9_possible at hF
  refine lv_iconst (v := (0 : Int32)) hx hb dX9_possible_0 (by decide) ?_
  refine lv_istore (lv' := [(4, .int (0 : Int32)), (0, .ref (ad 0)), (1, .int p1), (2, .int p2), (3, .int p3)]) hx hb dX9_possible_1 hl (by decide) rfl (fun ls hl => ?_)
  refine lv_aload_n hx hb dX9_possible_3 rfl (lv_at hl 1 rfl) ?_
  refine z_get (ci := 8) (C := RX9) (T := TX9) (N := 11) hx hb hts iX9_possible_X9 hown hK hP (zk_lt (rfl : zk 0 = 8) (by decide)) (zx_8 (rfl : zk 0 = 8)) rfl 2 (by decide) kX9_possible_f24 rfl (v := .ref (ad 19)) rfl dX9_possible_4 ?_
  refine lv_aload_n hx hb dX9_possible_7 rfl (lv_at hl 1 rfl) ?_
  refine z_get (ci := 8) (C := RX9) (T := TX9) (N := 11) hx hb hts iX9_possible_X9 hown hK hP (zk_lt (rfl : zk 0 = 8) (by decide)) (zx_8 (rfl : zk 0 = 8)) rfl 1 (by decide) kX9_possible_f20 rfl (v := .ref (ad 10)) rfl dX9_possible_8 ?_
  obtain ⟨r10, σ9, hC11, hF⟩ := zbd_inv hF
  refine z_callv (va_runV (As := [.ref (ad 10)]) (rest := []) ⟨hx, hb, hml, hown, hts⟩ (CX4_becomeLike l D cI cS cP ad A n σ σ9 r10 19 10 (rfl : zk 19 = 4) (rfl : zk 10 = 4) hC11) (cwV 1 hts gX9_possible_X4_becomeLike rfl rfl rfl (by decide +kernel) ⟨Nat.le_of_ble_eq_true rfl, Nat.le_of_ble_eq_true rfl⟩) (z_preV hN hK hP hD (zk_lt (rfl : zk 19 = 4) (by decide)) (zx_4 (rfl : zk 19 = 4)) rfl) rfl rfl hl.1 rfl (lv_room (Nat.le_of_ble_eq_true rfl)) dX9_possible_11 ⟨Nat.zero_le _, Nat.zero_le _⟩) hS (fun H locs hP hD hS => ?_)
  refine lv_iconst (v := (0 : Int32)) hx hb dX9_possible_14 (by decide) ?_
  refine lv_istore (lv' := [(5, .int (0 : Int32)), (4, .int (0 : Int32)), (0, .ref (ad 0)), (1, .int p1), (2, .int p2), (3, .int p3)]) hx hb dX9_possible_15 hl (by decide) rfl (fun ls hl => ?_)
  exact hB17 n σ9 p1 p2 p3 (0 : Int32) (0 : Int32) _ _ _ hF hP hD hS (lv_sub hl [2, 3, 4, 5, 1, 0] rfl)
theorem kX9_knowings_f20 : Cond.fieldLink RX9 20 "LeastAsked" "now" "LLeastAsked$Province;" ∈ wsX9_knowings := by decide +kernel
theorem iX9_knowings_X9 : ∀ w ∈ u_ws RX9 TX9 11, w ∈ wsX9_knowings := fun _ h => List.mem_cons_of_mem _ (List.mem_append_left _ (List.mem_append_left _ (List.mem_append_left _ (List.mem_append_right _ h))))
set_option maxHeartbeats 4000000 in
set_option maxRecDepth 100000 in
theorem CX9_knowings (l : Launch) (D : va_G) (cI cS cP : ClassId) (ad : Nat → Nat) (A : Nat → Prop) (n : Nat) (σ σ' : zMem) (r0 : Int32) (p1 : Int32) (hF : FX9_knowings n σ p1 = some (r0, σ')) : Met l yX9_knowings wsX9_knowings ({ frames := 4, cells := 0, slots := 0, locals := 91 } : Room) (va_Pc [.ref (ad 0), .int p1] (zB (zx cI cS cP ad) 41 ad D (zty cI cS cP) A σ)) (va_Qi (fun r u => r = r0 ∧ u = σ') (zB (zx cI cS cP ad) 41 ad D (zty cI cS cP) A) A) 0 0 A := by
  refine Met.ofW (cc := cX9_knowings) (maxL := 2) (ret := (some .int)) (by decide) rfl ?_
  intro p e s m args below meth c s₁ B hml hv
  obtain ⟨rfl, hP, hK, hD, hN⟩ := hv
  have hx := B.exec
  have hb := B.bytes
  have hr := B.returns
  have hts := atoms_spec (ws := wsX9_knowings) B.pre
  have hown : s.vm.findClass RX9 = some m.cls := findClass_of_methodNamed B.named
  have hlocks := B.notSynchronized
  have hS : va_S A s.heap s.heap [] := va_S.rf
  have hl := lv_entry ([.ref (ad 0), .int p1]) (n := 2) (Nat.le_of_ble_eq_true rfl)
  rw [lg_entry_eq]
  generalize (lg_sl ([.ref (ad 0), .int p1]) ++ List.replicate (2 - (lg_sl ([.ref (ad 0), .int p1])).length) Slot.unset).toArray = ls at hl ⊢
  have hl : lv_has ls 2 [(0, .ref (ad 0)), (1, .int p1)] := hl
  clear B
  unfold FX9_knowings at hF
  refine lv_aload_n hx hb dX9_knowings_0 rfl (lv_at hl 0 rfl) ?_
  refine z_get (ci := 8) (C := RX9) (T := TX9) (N := 11) hx hb hts iX9_knowings_X9 hown hK hP (zk_lt (rfl : zk 0 = 8) (by decide)) (zx_8 (rfl : zk 0 = 8)) rfl 1 (by decide) kX9_knowings_f20 rfl (v := .ref (ad 10)) rfl dX9_knowings_1 ?_
  refine lv_iload_n hx hb dX9_knowings_4 rfl (lv_at hl 1 rfl) ?_
  obtain ⟨r2, σ1, hC3, hF⟩ := zbd_inv hF
  refine z_calli (va_runV (As := [.int p1]) (rest := []) ⟨hx, hb, hml, hown, hts⟩ (CX4_hasPerson l D cI cS cP ad A n σ σ1 r2 10 p1 (rfl : zk 10 = 4) hC3) (cwV 1 hts gX9_knowings_X4_hasPerson rfl rfl rfl (by decide +kernel) ⟨Nat.le_of_ble_eq_true rfl, Nat.le_of_ble_eq_true rfl⟩) (z_preV hN hK hP hD (zk_lt (rfl : zk 10 = 4) (by decide)) (zx_4 (rfl : zk 10 = 4)) rfl) rfl rfl hl.1 rfl (lv_room (Nat.le_of_ble_eq_true rfl)) dX9_knowings_5 ⟨Nat.zero_le _, Nat.zero_le _⟩) hS (fun H locs hP hD hS => ?_)
  refine lv_if_eq (tgt := 22) hx hb dX9_knowings_8 (by decide) (fun b4 => ?_) (fun b4 => ?_)
  · have hF := zif_t b4 hF
    refine lv_iconst (v := (-1 : Int32)) hx hb dX9_knowings_22 (by decide) ?_
    exact z_iret hx hb hr hlocks hN hK hP hD hS hF dX9_knowings_23
  · have hF := zif_f b4 hF
    refine lv_aload_n hx hb dX9_knowings_11 rfl (lv_at hl 0 rfl) ?_
    refine lv_iconst (v := (0 : Int32)) hx hb dX9_knowings_12 (by decide) ?_
    refine lv_iload_n hx hb dX9_knowings_13 rfl (lv_at hl 1 rfl) ?_
    refine lv_bipush (v := (8 : Int32)) hx hb dX9_knowings_14 (by decide) ?_
    obtain ⟨r6, σ5, hC7, hF⟩ := zbd_inv hF
    refine z_calli (va_runV (As := [.int (0 : Int32), .int p1, .int (8 : Int32)]) (rest := []) ⟨hx, hb, hml, hown, hts⟩ (CX9_possible l D cI cS cP ad A n σ1 σ5 r6 (0 : Int32) p1 (8 : Int32) hC7) (cwV 3 hts gX9_knowings_X9_possible rfl rfl rfl (by decide +kernel) ⟨Nat.le_of_ble_eq_true rfl, Nat.le_of_ble_eq_true rfl⟩) (z_preV hN hK hP hD (zk_lt (rfl : zk 0 = 8) (by decide)) (zx_8 (rfl : zk 0 = 8)) rfl) rfl rfl hl.1 rfl (lv_room (Nat.le_of_ble_eq_true rfl)) dX9_knowings_16 ⟨Nat.zero_le _, Nat.zero_le _⟩) hS (fun H locs hP hD hS => ?_)
    refine lv_goto (tgt := 23) hx hb dX9_knowings_19 (by decide) ?_
    exact z_iret hx hb hr hlocks hN hK hP hD hS hF dX9_knowings_23
theorem kX9_wits_f20 : Cond.fieldLink RX9 20 "LeastAsked" "now" "LLeastAsked$Province;" ∈ wsX9_wits := by decide +kernel
theorem iX9_wits_X9 : ∀ w ∈ u_ws RX9 TX9 11, w ∈ wsX9_wits := fun _ h => List.mem_cons_of_mem _ (List.mem_append_left _ (List.mem_append_left _ (List.mem_append_left _ (List.mem_append_right _ h))))
set_option maxHeartbeats 4000000 in
set_option maxRecDepth 100000 in
theorem CX9_wits (l : Launch) (D : va_G) (cI cS cP : ClassId) (ad : Nat → Nat) (A : Nat → Prop) (n : Nat) (σ σ' : zMem) (r0 : Int32) (p1 : Int32) (hF : FX9_wits n σ p1 = some (r0, σ')) : Met l yX9_wits wsX9_wits ({ frames := 4, cells := 0, slots := 0, locals := 91 } : Room) (va_Pc [.ref (ad 0), .int p1] (zB (zx cI cS cP ad) 41 ad D (zty cI cS cP) A σ)) (va_Qi (fun r u => r = r0 ∧ u = σ') (zB (zx cI cS cP ad) 41 ad D (zty cI cS cP) A) A) 0 0 A := by
  refine Met.ofW (cc := cX9_wits) (maxL := 2) (ret := (some .int)) (by decide) rfl ?_
  intro p e s m args below meth c s₁ B hml hv
  obtain ⟨rfl, hP, hK, hD, hN⟩ := hv
  have hx := B.exec
  have hb := B.bytes
  have hr := B.returns
  have hts := atoms_spec (ws := wsX9_wits) B.pre
  have hown : s.vm.findClass RX9 = some m.cls := findClass_of_methodNamed B.named
  have hlocks := B.notSynchronized
  have hS : va_S A s.heap s.heap [] := va_S.rf
  have hl := lv_entry ([.ref (ad 0), .int p1]) (n := 2) (Nat.le_of_ble_eq_true rfl)
  rw [lg_entry_eq]
  generalize (lg_sl ([.ref (ad 0), .int p1]) ++ List.replicate (2 - (lg_sl ([.ref (ad 0), .int p1])).length) Slot.unset).toArray = ls at hl ⊢
  have hl : lv_has ls 2 [(0, .ref (ad 0)), (1, .int p1)] := hl
  clear B
  unfold FX9_wits at hF
  refine lv_aload_n hx hb dX9_wits_0 rfl (lv_at hl 0 rfl) ?_
  refine z_get (ci := 8) (C := RX9) (T := TX9) (N := 11) hx hb hts iX9_wits_X9 hown hK hP (zk_lt (rfl : zk 0 = 8) (by decide)) (zx_8 (rfl : zk 0 = 8)) rfl 1 (by decide) kX9_wits_f20 rfl (v := .ref (ad 10)) rfl dX9_wits_1 ?_
  refine lv_iload_n hx hb dX9_wits_4 rfl (lv_at hl 1 rfl) ?_
  obtain ⟨r2, σ1, hC3, hF⟩ := zbd_inv hF
  refine z_calli (va_runV (As := [.int p1]) (rest := []) ⟨hx, hb, hml, hown, hts⟩ (CX4_hasPerson l D cI cS cP ad A n σ σ1 r2 10 p1 (rfl : zk 10 = 4) hC3) (cwV 1 hts gX9_wits_X4_hasPerson rfl rfl rfl (by decide +kernel) ⟨Nat.le_of_ble_eq_true rfl, Nat.le_of_ble_eq_true rfl⟩) (z_preV hN hK hP hD (zk_lt (rfl : zk 10 = 4) (by decide)) (zx_4 (rfl : zk 10 = 4)) rfl) rfl rfl hl.1 rfl (lv_room (Nat.le_of_ble_eq_true rfl)) dX9_wits_5 ⟨Nat.zero_le _, Nat.zero_le _⟩) hS (fun H locs hP hD hS => ?_)
  refine lv_if_eq (tgt := 22) hx hb dX9_wits_8 (by decide) (fun b4 => ?_) (fun b4 => ?_)
  · have hF := zif_t b4 hF
    refine lv_iconst (v := (-1 : Int32)) hx hb dX9_wits_22 (by decide) ?_
    exact z_iret hx hb hr hlocks hN hK hP hD hS hF dX9_wits_23
  · have hF := zif_f b4 hF
    refine lv_aload_n hx hb dX9_wits_11 rfl (lv_at hl 0 rfl) ?_
    refine lv_iconst (v := (1 : Int32)) hx hb dX9_wits_12 (by decide) ?_
    refine lv_iload_n hx hb dX9_wits_13 rfl (lv_at hl 1 rfl) ?_
    refine lv_bipush (v := (10 : Int32)) hx hb dX9_wits_14 (by decide) ?_
    obtain ⟨r6, σ5, hC7, hF⟩ := zbd_inv hF
    refine z_calli (va_runV (As := [.int (1 : Int32), .int p1, .int (10 : Int32)]) (rest := []) ⟨hx, hb, hml, hown, hts⟩ (CX9_possible l D cI cS cP ad A n σ1 σ5 r6 (1 : Int32) p1 (10 : Int32) hC7) (cwV 3 hts gX9_wits_X9_possible rfl rfl rfl (by decide +kernel) ⟨Nat.le_of_ble_eq_true rfl, Nat.le_of_ble_eq_true rfl⟩) (z_preV hN hK hP hD (zk_lt (rfl : zk 0 = 8) (by decide)) (zx_8 (rfl : zk 0 = 8)) rfl) rfl rfl hl.1 rfl (lv_room (Nat.le_of_ble_eq_true rfl)) dX9_wits_16 ⟨Nat.zero_le _, Nat.zero_le _⟩) hS (fun H locs hP hD hS => ?_)
    refine lv_goto (tgt := 23) hx hb dX9_wits_19 (by decide) ?_
    exact z_iret hx hb hr hlocks hN hK hP hD hS hF dX9_wits_23
theorem kX9_kinds_f20 : Cond.fieldLink RX9 20 "LeastAsked" "now" "LLeastAsked$Province;" ∈ wsX9_kinds := by decide +kernel
theorem iX9_kinds_X9 : ∀ w ∈ u_ws RX9 TX9 11, w ∈ wsX9_kinds := fun _ h => List.mem_cons_of_mem _ (List.mem_append_left _ (List.mem_append_left _ (List.mem_append_left _ (List.mem_append_right _ h))))
set_option maxHeartbeats 4000000 in
set_option maxRecDepth 100000 in
theorem CX9_kinds (l : Launch) (D : va_G) (cI cS cP : ClassId) (ad : Nat → Nat) (A : Nat → Prop) (n : Nat) (σ σ' : zMem) (r0 : Int32) (p1 : Int32) (hF : FX9_kinds n σ p1 = some (r0, σ')) : Met l yX9_kinds wsX9_kinds ({ frames := 4, cells := 0, slots := 0, locals := 91 } : Room) (va_Pc [.ref (ad 0), .int p1] (zB (zx cI cS cP ad) 41 ad D (zty cI cS cP) A σ)) (va_Qi (fun r u => r = r0 ∧ u = σ') (zB (zx cI cS cP ad) 41 ad D (zty cI cS cP) A) A) 0 0 A := by
  refine Met.ofW (cc := cX9_kinds) (maxL := 2) (ret := (some .int)) (by decide) rfl ?_
  intro p e s m args below meth c s₁ B hml hv
  obtain ⟨rfl, hP, hK, hD, hN⟩ := hv
  have hx := B.exec
  have hb := B.bytes
  have hr := B.returns
  have hts := atoms_spec (ws := wsX9_kinds) B.pre
  have hown : s.vm.findClass RX9 = some m.cls := findClass_of_methodNamed B.named
  have hlocks := B.notSynchronized
  have hS : va_S A s.heap s.heap [] := va_S.rf
  have hl := lv_entry ([.ref (ad 0), .int p1]) (n := 2) (Nat.le_of_ble_eq_true rfl)
  rw [lg_entry_eq]
  generalize (lg_sl ([.ref (ad 0), .int p1]) ++ List.replicate (2 - (lg_sl ([.ref (ad 0), .int p1])).length) Slot.unset).toArray = ls at hl ⊢
  have hl : lv_has ls 2 [(0, .ref (ad 0)), (1, .int p1)] := hl
  clear B
  unfold FX9_kinds at hF
  refine lv_aload_n hx hb dX9_kinds_0 rfl (lv_at hl 0 rfl) ?_
  refine z_get (ci := 8) (C := RX9) (T := TX9) (N := 11) hx hb hts iX9_kinds_X9 hown hK hP (zk_lt (rfl : zk 0 = 8) (by decide)) (zx_8 (rfl : zk 0 = 8)) rfl 1 (by decide) kX9_kinds_f20 rfl (v := .ref (ad 10)) rfl dX9_kinds_1 ?_
  refine lv_iload_n hx hb dX9_kinds_4 rfl (lv_at hl 1 rfl) ?_
  obtain ⟨r2, σ1, hC3, hF⟩ := zbd_inv hF
  refine z_calli (va_runV (As := [.int p1]) (rest := []) ⟨hx, hb, hml, hown, hts⟩ (CX4_hasPerson l D cI cS cP ad A n σ σ1 r2 10 p1 (rfl : zk 10 = 4) hC3) (cwV 1 hts gX9_kinds_X4_hasPerson rfl rfl rfl (by decide +kernel) ⟨Nat.le_of_ble_eq_true rfl, Nat.le_of_ble_eq_true rfl⟩) (z_preV hN hK hP hD (zk_lt (rfl : zk 10 = 4) (by decide)) (zx_4 (rfl : zk 10 = 4)) rfl) rfl rfl hl.1 rfl (lv_room (Nat.le_of_ble_eq_true rfl)) dX9_kinds_5 ⟨Nat.zero_le _, Nat.zero_le _⟩) hS (fun H locs hP hD hS => ?_)
  refine lv_if_eq (tgt := 21) hx hb dX9_kinds_8 (by decide) (fun b4 => ?_) (fun b4 => ?_)
  · have hF := zif_t b4 hF
    refine lv_iconst (v := (-1 : Int32)) hx hb dX9_kinds_21 (by decide) ?_
    exact z_iret hx hb hr hlocks hN hK hP hD hS hF dX9_kinds_22
  · have hF := zif_f b4 hF
    refine lv_aload_n hx hb dX9_kinds_11 rfl (lv_at hl 0 rfl) ?_
    refine lv_iconst (v := (2 : Int32)) hx hb dX9_kinds_12 (by decide) ?_
    refine lv_iload_n hx hb dX9_kinds_13 rfl (lv_at hl 1 rfl) ?_
    refine lv_iconst (v := (3 : Int32)) hx hb dX9_kinds_14 (by decide) ?_
    obtain ⟨r6, σ5, hC7, hF⟩ := zbd_inv hF
    refine z_calli (va_runV (As := [.int (2 : Int32), .int p1, .int (3 : Int32)]) (rest := []) ⟨hx, hb, hml, hown, hts⟩ (CX9_possible l D cI cS cP ad A n σ1 σ5 r6 (2 : Int32) p1 (3 : Int32) hC7) (cwV 3 hts gX9_kinds_X9_possible rfl rfl rfl (by decide +kernel) ⟨Nat.le_of_ble_eq_true rfl, Nat.le_of_ble_eq_true rfl⟩) (z_preV hN hK hP hD (zk_lt (rfl : zk 0 = 8) (by decide)) (zx_8 (rfl : zk 0 = 8)) rfl) rfl rfl hl.1 rfl (lv_room (Nat.le_of_ble_eq_true rfl)) dX9_kinds_15 ⟨Nat.zero_le _, Nat.zero_le _⟩) hS (fun H locs hP hD hS => ?_)
    refine lv_goto (tgt := 22) hx hb dX9_kinds_18 (by decide) ?_
    exact z_iret hx hb hr hlocks hN hK hP hD hS hF dX9_kinds_22
theorem kX9_worths_f20 : Cond.fieldLink RX9 20 "LeastAsked" "now" "LLeastAsked$Province;" ∈ wsX9_worths := by decide +kernel
theorem iX9_worths_X9 : ∀ w ∈ u_ws RX9 TX9 11, w ∈ wsX9_worths := fun _ h => List.mem_cons_of_mem _ (List.mem_append_left _ (List.mem_append_left _ (List.mem_append_left _ (List.mem_append_right _ h))))
set_option maxHeartbeats 4000000 in
set_option maxRecDepth 100000 in
theorem CX9_worths (l : Launch) (D : va_G) (cI cS cP : ClassId) (ad : Nat → Nat) (A : Nat → Prop) (n : Nat) (σ σ' : zMem) (r0 : Int32) (p1 : Int32) (hF : FX9_worths n σ p1 = some (r0, σ')) : Met l yX9_worths wsX9_worths ({ frames := 4, cells := 0, slots := 0, locals := 91 } : Room) (va_Pc [.ref (ad 0), .int p1] (zB (zx cI cS cP ad) 41 ad D (zty cI cS cP) A σ)) (va_Qi (fun r u => r = r0 ∧ u = σ') (zB (zx cI cS cP ad) 41 ad D (zty cI cS cP) A) A) 0 0 A := by
  refine Met.ofW (cc := cX9_worths) (maxL := 2) (ret := (some .int)) (by decide) rfl ?_
  intro p e s m args below meth c s₁ B hml hv
  obtain ⟨rfl, hP, hK, hD, hN⟩ := hv
  have hx := B.exec
  have hb := B.bytes
  have hr := B.returns
  have hts := atoms_spec (ws := wsX9_worths) B.pre
  have hown : s.vm.findClass RX9 = some m.cls := findClass_of_methodNamed B.named
  have hlocks := B.notSynchronized
  have hS : va_S A s.heap s.heap [] := va_S.rf
  have hl := lv_entry ([.ref (ad 0), .int p1]) (n := 2) (Nat.le_of_ble_eq_true rfl)
  rw [lg_entry_eq]
  generalize (lg_sl ([.ref (ad 0), .int p1]) ++ List.replicate (2 - (lg_sl ([.ref (ad 0), .int p1])).length) Slot.unset).toArray = ls at hl ⊢
  have hl : lv_has ls 2 [(0, .ref (ad 0)), (1, .int p1)] := hl
  clear B
  unfold FX9_worths at hF
  refine lv_aload_n hx hb dX9_worths_0 rfl (lv_at hl 0 rfl) ?_
  refine z_get (ci := 8) (C := RX9) (T := TX9) (N := 11) hx hb hts iX9_worths_X9 hown hK hP (zk_lt (rfl : zk 0 = 8) (by decide)) (zx_8 (rfl : zk 0 = 8)) rfl 1 (by decide) kX9_worths_f20 rfl (v := .ref (ad 10)) rfl dX9_worths_1 ?_
  refine lv_iload_n hx hb dX9_worths_4 rfl (lv_at hl 1 rfl) ?_
  obtain ⟨r2, σ1, hC3, hF⟩ := zbd_inv hF
  refine z_calli (va_runV (As := [.int p1]) (rest := []) ⟨hx, hb, hml, hown, hts⟩ (CX4_hasMatter l D cI cS cP ad A n σ σ1 r2 10 p1 (rfl : zk 10 = 4) hC3) (cwV 1 hts gX9_worths_X4_hasMatter rfl rfl rfl (by decide +kernel) ⟨Nat.le_of_ble_eq_true rfl, Nat.le_of_ble_eq_true rfl⟩) (z_preV hN hK hP hD (zk_lt (rfl : zk 10 = 4) (by decide)) (zx_4 (rfl : zk 10 = 4)) rfl) rfl rfl hl.1 rfl (lv_room (Nat.le_of_ble_eq_true rfl)) dX9_worths_5 ⟨Nat.zero_le _, Nat.zero_le _⟩) hS (fun H locs hP hD hS => ?_)
  refine lv_if_eq (tgt := 22) hx hb dX9_worths_8 (by decide) (fun b4 => ?_) (fun b4 => ?_)
  · have hF := zif_t b4 hF
    refine lv_iconst (v := (-1 : Int32)) hx hb dX9_worths_22 (by decide) ?_
    exact z_iret hx hb hr hlocks hN hK hP hD hS hF dX9_worths_23
  · have hF := zif_f b4 hF
    refine lv_aload_n hx hb dX9_worths_11 rfl (lv_at hl 0 rfl) ?_
    refine lv_iconst (v := (3 : Int32)) hx hb dX9_worths_12 (by decide) ?_
    refine lv_iload_n hx hb dX9_worths_13 rfl (lv_at hl 1 rfl) ?_
    refine lv_bipush (v := (10 : Int32)) hx hb dX9_worths_14 (by decide) ?_
    obtain ⟨r6, σ5, hC7, hF⟩ := zbd_inv hF
    refine z_calli (va_runV (As := [.int (3 : Int32), .int p1, .int (10 : Int32)]) (rest := []) ⟨hx, hb, hml, hown, hts⟩ (CX9_possible l D cI cS cP ad A n σ1 σ5 r6 (3 : Int32) p1 (10 : Int32) hC7) (cwV 3 hts gX9_worths_X9_possible rfl rfl rfl (by decide +kernel) ⟨Nat.le_of_ble_eq_true rfl, Nat.le_of_ble_eq_true rfl⟩) (z_preV hN hK hP hD (zk_lt (rfl : zk 0 = 8) (by decide)) (zx_8 (rfl : zk 0 = 8)) rfl) rfl rfl hl.1 rfl (lv_room (Nat.le_of_ble_eq_true rfl)) dX9_worths_16 ⟨Nat.zero_le _, Nat.zero_le _⟩) hS (fun H locs hP hD hS => ?_)
    refine lv_goto (tgt := 23) hx hb dX9_worths_19 (by decide) ?_
    exact z_iret hx hb hr hlocks hN hK hP hD hS hF dX9_worths_23
theorem kX9_waysToBring_f24 : Cond.fieldLink RX9 24 "LeastAsked" "trial" "LLeastAsked$Province;" ∈ wsX9_waysToBring := by decide +kernel
theorem kX9_waysToBring_f108 : Cond.fieldLink RX9 108 "LeastAsked$Province" "people" "[LLeastAsked$Person;" ∈ wsX9_waysToBring := by decide +kernel
theorem kX9_waysToBring_f120 : Cond.fieldLink RX9 120 "LeastAsked$Person" "knows" "I" ∈ wsX9_waysToBring := by decide +kernel
theorem kX9_waysToBring_f20 : Cond.fieldLink RX9 20 "LeastAsked" "now" "LLeastAsked$Province;" ∈ wsX9_waysToBring := by decide +kernel
theorem iX9_waysToBring_X9 : ∀ w ∈ u_ws RX9 TX9 11, w ∈ wsX9_waysToBring := fun _ h => List.mem_cons_of_mem _ (List.mem_append_left _ (List.mem_append_left _ (List.mem_append_right _ h)))
theorem iX9_waysToBring_X4 : ∀ w ∈ u_ws RX4 TX4 3, w ∈ wsX9_waysToBring := fun _ h => List.mem_cons_of_mem _ (List.mem_append_left _ (List.mem_append_right _ h))
theorem iX9_waysToBring_X2 : ∀ w ∈ u_ws RX2 TX2 4, w ∈ wsX9_waysToBring := fun _ h => List.mem_cons_of_mem _ (List.mem_append_right _ h)
set_option maxHeartbeats 4000000 in
set_option maxRecDepth 100000 in
theorem CX9_waysToBring (l : Launch) (D : va_G) (cI cS cP : ClassId) (ad : Nat → Nat) (A : Nat → Prop) (n : Nat) (σ σ' : zMem) (r0 : Int32) (p1 : Int32) (p2 : Int32) (hF : FX9_waysToBring n σ p1 p2 = some (r0, σ')) : Met l yX9_waysToBring wsX9_waysToBring ({ frames := 2, cells := 0, slots := 0, locals := 62 } : Room) (va_Pc [.ref (ad 0), .int p1, .int p2] (zB (zx cI cS cP ad) 41 ad D (zty cI cS cP) A σ)) (va_Qi (fun r u => r = r0 ∧ u = σ') (zB (zx cI cS cP ad) 41 ad D (zty cI cS cP) A) A) 0 0 A := by
  refine Met.ofW (cc := cX9_waysToBring) (maxL := 6) (ret := (some .int)) (by decide) rfl ?_
  intro p e s m args below meth c s₁ B hml hv
  obtain ⟨rfl, hP, hK, hD, hN⟩ := hv
  have hx := B.exec
  have hb := B.bytes
  have hr := B.returns
  have hts := atoms_spec (ws := wsX9_waysToBring) B.pre
  have hown : s.vm.findClass RX9 = some m.cls := findClass_of_methodNamed B.named
  have hlocks := B.notSynchronized
  have hS : va_S A s.heap s.heap [] := va_S.rf
  have hl := lv_entry ([.ref (ad 0), .int p1, .int p2]) (n := 6) (Nat.le_of_ble_eq_true rfl)
  rw [lg_entry_eq]
  generalize (lg_sl ([.ref (ad 0), .int p1, .int p2]) ++ List.replicate (6 - (lg_sl ([.ref (ad 0), .int p1, .int p2])).length) Slot.unset).toArray = ls at hl ⊢
  have hl : lv_has ls 6 [(0, .ref (ad 0)), (1, .int p1), (2, .int p2)] := hl
  clear B
  have hB16 : ∀ (f16 : Nat) (σ : zMem) (l1 : Int32) (l2 : Int32) (l3 : Int32) (l4 : Int32), ∀ (H : Heap) (locs : List Loc) (ls : Array Slot), zlp (LX9_waysToBring_16 n) f16 (σ, l1, l2, l3, l4) = some (r0, σ') → va_P D vwCl (zW (zx cI cS cP ad) 41 ad σ) H → va_D A (zW (zx cI cS cP ad) 41 ad σ) → va_S A s.heap H locs → lv_has ls 6 [(0, .ref (ad 0)), (1, .int l1), (2, .int l2), (3, .int l3), (4, .int l4)] → W p l e (headSpec wsX9_waysToBring ({ frames := 2, cells := 0, slots := 0, locals := 62 } : Room)).room s m ([.ref (ad 0), .int p1, .int p2] : List Value).toArray below meth c H locs 0 0 (MQ below (va_Qi (fun r u => r = r0 ∧ u = σ') (zB (zx cI cS cP ad) 41 ad D (zty cI cS cP) A) A) ([.ref (ad 0), .int p1, .int p2] : List Value).toArray s 0 0 A) (F0 m 16 ls []) := by
    intro f16
    induction f16 with
    | zero => intro σ l1 l2 l3 l4 H locs ls hF hP hD hS hl; exact (zlp_0 hF).elim
    | succ f16 ih16 =>
      have hB40 : ∀ (f40 : Nat) (σ : zMem) (l1 : Int32) (l2 : Int32) (l3 : Int32) (l4 : Int32) (l5 : Int32), ∀ (H : Heap) (locs : List Loc) (ls : Array Slot), zlp (LX9_waysToBring_40 n (zlp (LX9_waysToBring_16 n) f16)) f40 (σ, l1, l2, l3, l4, l5) = some (r0, σ') → va_P D vwCl (zW (zx cI cS cP ad) 41 ad σ) H → va_D A (zW (zx cI cS cP ad) 41 ad σ) → va_S A s.heap H locs → lv_has ls 6 [(0, .ref (ad 0)), (1, .int l1), (2, .int l2), (3, .int l3), (4, .int l4), (5, .int l5)] → W p l e (headSpec wsX9_waysToBring ({ frames := 2, cells := 0, slots := 0, locals := 62 } : Room)).room s m ([.ref (ad 0), .int p1, .int p2] : List Value).toArray below meth c H locs 0 0 (MQ below (va_Qi (fun r u => r = r0 ∧ u = σ') (zB (zx cI cS cP ad) 41 ad D (zty cI cS cP) A) A) ([.ref (ad 0), .int p1, .int p2] : List Value).toArray s 0 0 A) (F0 m 40 ls []) := by
        intro f40
        induction f40 with
        | zero => intro σ l1 l2 l3 l4 l5 H locs ls hF hP hD hS hl; exact (zlp_0 hF).elim
        | succ f40 ih40 =>
          intro σ l1 l2 l3 l4 l5 H locs ls hF hP hD hS hl
          have hF : LBX9_waysToBring_40 n  (zlp (LX9_waysToBring_16 n) f16) (zlp (LX9_waysToBring_40 n (zlp (LX9_waysToBring_16 n) f16)) f40) σ l1 l2 l3 l4 l5 = some (r0, σ') := hF
          unfold LBX9_waysToBring_40 at hF
          refine lv_iload hx hb dX9_waysToBring_40 (lv_at hl 5 rfl) ?_
          refine lv_iconst (v := (3 : Int32)) hx hb dX9_waysToBring_42 (by decide) ?_
          refine lv_icmp_ge (tgt := 69) hx hb dX9_waysToBring_43 (by decide) (fun b1 => ?_) (fun b1 => ?_)
          · have hF := zif_t b1 hF
            refine lv_iinc (v := (l4 + (1 : Int32))) (lv' := [(4, .int (l4 + (1 : Int32))), (0, .ref (ad 0)), (1, .int l1), (2, .int l2), (3, .int l3), (5, .int l5)]) hx hb dX9_waysToBring_69 hl (k := 4) rfl rfl (by decide) rfl (fun ls hl => ?_)
            refine lv_goto (tgt := 16) hx hb dX9_waysToBring_72 (by decide) ?_
            exact ih16 σ l1 l2 l3 (l4 + (1 : Int32)) _ _ _ hF hP hD hS (lv_sub hl [1, 2, 3, 4, 0] rfl)
          · have hF := zif_f b1 hF
            refine lv_aload_n hx hb dX9_waysToBring_46 rfl (lv_at hl 0 rfl) ?_
            refine z_get (ci := 8) (C := RX9) (T := TX9) (N := 11) hx hb hts iX9_waysToBring_X9 hown hK hP (zk_lt (rfl : zk 0 = 8) (by decide)) (zx_8 (rfl : zk 0 = 8)) rfl 2 (by decide) kX9_waysToBring_f24 rfl (v := .ref (ad 19)) rfl dX9_waysToBring_47 ?_
            refine lv_iload_n hx hb dX9_waysToBring_50 rfl (lv_at hl 1 rfl) ?_
            refine lv_iload hx hb dX9_waysToBring_51 (lv_at hl 5 rfl) ?_
            obtain ⟨r3, σ2, hC4, hF⟩ := zbd_inv hF
            refine z_calli (va_runV (As := [.int l1, .int l5]) (rest := []) ⟨hx, hb, hml, hown, hts⟩ (CX4_bringing l D cI cS cP ad A n σ σ2 r3 19 l1 l5 (rfl : zk 19 = 4) hC4) (cwV 2 hts gX9_waysToBring_X4_bringing rfl rfl rfl (by decide +kernel) ⟨Nat.le_of_ble_eq_true rfl, Nat.le_of_ble_eq_true rfl⟩) (z_preV hN hK hP hD (zk_lt (rfl : zk 19 = 4) (by decide)) (zx_4 (rfl : zk 19 = 4)) rfl) rfl rfl hl.1 rfl (lv_room (Nat.le_of_ble_eq_true rfl)) dX9_waysToBring_53 ⟨Nat.zero_le _, Nat.zero_le _⟩) hS (fun H locs hP hD hS => ?_)
            refine lv_iload_n hx hb dX9_waysToBring_56 rfl (lv_at hl 2 rfl) ?_
            refine lv_icmp_lt (tgt := 63) hx hb dX9_waysToBring_57 (by decide) (fun b5 => ?_) (fun b5 => ?_)
            · have hF := zif_t b5 hF
              refine lv_iinc (v := (l5 + (1 : Int32))) (lv' := [(5, .int (l5 + (1 : Int32))), (0, .ref (ad 0)), (1, .int l1), (2, .int l2), (3, .int l3), (4, .int l4)]) hx hb dX9_waysToBring_63 hl (k := 5) rfl rfl (by decide) rfl (fun ls hl => ?_)
              refine lv_goto (tgt := 40) hx hb dX9_waysToBring_66 (by decide) ?_
              exact ih40 σ2 l1 l2 l3 l4 (l5 + (1 : Int32)) _ _ _ hF hP hD hS (lv_sub hl [1, 2, 3, 4, 5, 0] rfl)
            · have hF := zif_f b5 hF
              refine lv_iinc (v := (l3 + (1 : Int32))) (lv' := [(3, .int (l3 + (1 : Int32))), (0, .ref (ad 0)), (1, .int l1), (2, .int l2), (4, .int l4), (5, .int l5)]) hx hb dX9_waysToBring_60 hl (k := 3) rfl rfl (by decide) rfl (fun ls hl => ?_)
              refine lv_iinc (v := (l5 + (1 : Int32))) (lv' := [(5, .int (l5 + (1 : Int32))), (3, .int (l3 + (1 : Int32))), (0, .ref (ad 0)), (1, .int l1), (2, .int l2), (4, .int l4)]) hx hb dX9_waysToBring_63 hl (k := 5) rfl rfl (by decide) rfl (fun ls hl => ?_)
              refine lv_goto (tgt := 40) hx hb dX9_waysToBring_66 (by decide) ?_
              exact ih40 σ2 l1 l2 (l3 + (1 : Int32)) l4 (l5 + (1 : Int32)) _ _ _ hF hP hD hS (lv_sub hl [2, 3, 4, 1, 5, 0] rfl)
      intro σ l1 l2 l3 l4 H locs ls hF hP hD hS hl
      have hF : LBX9_waysToBring_16 n   (zlp (LX9_waysToBring_16 n) f16) σ l1 l2 l3 l4 = some (r0, σ') := hF
      unfold LBX9_waysToBring_16 at hF
      refine lv_iload hx hb dX9_waysToBring_16 (lv_at hl 4 rfl) ?_
      refine lv_bipush (v := (8 : Int32)) hx hb dX9_waysToBring_18 (by decide) ?_
      refine lv_icmp_ge (tgt := 75) hx hb dX9_waysToBring_20 (by decide) (fun b6 => ?_) (fun b6 => ?_)
      · have hF := zif_t b6 hF
        refine lv_iload_n hx hb dX9_waysToBring_75 rfl (lv_at hl 3 rfl) ?_
        exact z_iret hx hb hr hlocks hN hK hP hD hS hF dX9_waysToBring_76
      · have hF := zif_f b6 hF
        refine lv_aload_n hx hb dX9_waysToBring_23 rfl (lv_at hl 0 rfl) ?_
        refine z_get (ci := 8) (C := RX9) (T := TX9) (N := 11) hx hb hts iX9_waysToBring_X9 hown hK hP (zk_lt (rfl : zk 0 = 8) (by decide)) (zx_8 (rfl : zk 0 = 8)) rfl 2 (by decide) kX9_waysToBring_f24 rfl (v := .ref (ad 19)) rfl dX9_waysToBring_24 ?_
        refine z_get (ci := 4) (C := RX4) (T := TX4) (N := 3) hx hb hts iX9_waysToBring_X4 hown hK hP (zk_lt (rfl : zk 19 = 4) (by decide)) (zx_4 (rfl : zk 19 = 4)) rfl 1 (by decide) kX9_waysToBring_f108 rfl (v := .ref (ad 21)) rfl dX9_waysToBring_27 ?_
        refine lv_iload_n hx hb dX9_waysToBring_30 rfl (lv_at hl 1 rfl) ?_
        obtain ⟨g7, hF⟩ := zgd_inv hF
        refine z_aldq hx hb hK hP 2 (zk_lt (zk_4p (rfl : zk 19 = 4)) (by decide)) (zx_22 (zk_4p (rfl : zk 19 = 4))) rfl g7 dX9_waysToBring_31 ?_
        refine lv_iload hx hb dX9_waysToBring_32 (lv_at hl 4 rfl) ?_
        obtain ⟨σ8, eσ8, hF⟩ := zlet_inv hF
        refine z_put (ci := 2) (C := RX2) (T := TX2) (N := 4) hx hb hts iX9_waysToBring_X2 tyX2 tyX2_ok nmX2 hown hK hP hD hS (zk_lt (zk_22p (zk_4p (rfl : zk 19 = 4)) g7) (by decide)) (zx_2 (zk_22p (zk_4p (rfl : zk 19 = 4)) g7)) rfl 2 (by decide) kX9_waysToBring_f120 rfl rfl rfl rfl (Nat.le_of_ble_eq_true rfl) (zx_2 (zk_22p (zk_4p (rfl : zk 19 = 4)) g7)) dX9_waysToBring_34 (fun H locs hP hD hS => ?_)
        have hP : va_P D vwCl (zW (zx cI cS cP ad) 41 ad σ8) H := by rw [eσ8]; exact hP
        have hD : va_D A (zW (zx cI cS cP ad) 41 ad σ8) := by rw [eσ8]; exact hD
        refine lv_iconst (v := (0 : Int32)) hx hb dX9_waysToBring_37 (by decide) ?_
        refine lv_istore (lv' := [(5, .int (0 : Int32)), (0, .ref (ad 0)), (1, .int l1), (2, .int l2), (3, .int l3), (4, .int l4)]) hx hb dX9_waysToBring_38 hl (by decide) rfl (fun ls hl => ?_)
        exact hB40 n σ8 l1 l2 l3 l4 (0 : Int32) _ _ _ hF hP hD hS (lv_sub hl [1, 2, 3, 4, 5, 0] rfl)
  unfold FX9_waysToBring at hF
  refine lv_iconst (v := (0 : Int32)) hx hb dX9_waysToBring_0 (by decide) ?_
  refine lv_istore_n (lv' := [(3, .int (0 : Int32)), (0, .ref (ad 0)), (1, .int p1), (2, .int p2)]) hx hb dX9_waysToBring_1 rfl hl (by decide) rfl (fun ls hl => ?_)
  refine lv_aload_n hx hb dX9_waysToBring_2 rfl (lv_at hl 1 rfl) ?_
  refine z_get (ci := 8) (C := RX9) (T := TX9) (N := 11) hx hb hts iX9_waysToBring_X9 hown hK hP (zk_lt (rfl : zk 0 = 8) (by decide)) (zx_8 (rfl : zk 0 = 8)) rfl 2 (by decide) kX9_waysToBring_f24 rfl (v := .ref (ad 19)) rfl dX9_waysToBring_3 ?_
  refine lv_aload_n hx hb dX9_waysToBring_6 rfl (lv_at hl 1 rfl) ?_
  refine z_get (ci := 8) (C := RX9) (T := TX9) (N := 11) hx hb hts iX9_waysToBring_X9 hown hK hP (zk_lt (rfl : zk 0 = 8) (by decide)) (zx_8 (rfl : zk 0 = 8)) rfl 1 (by decide) kX9_waysToBring_f20 rfl (v := .ref (ad 10)) rfl dX9_waysToBring_7 ?_
  obtain ⟨r10, σ9, hC11, hF⟩ := zbd_inv hF
  refine z_callv (va_runV (As := [.ref (ad 10)]) (rest := []) ⟨hx, hb, hml, hown, hts⟩ (CX4_becomeLike l D cI cS cP ad A n σ σ9 r10 19 10 (rfl : zk 19 = 4) (rfl : zk 10 = 4) hC11) (cwV 1 hts gX9_waysToBring_X4_becomeLike rfl rfl rfl (by decide +kernel) ⟨Nat.le_of_ble_eq_true rfl, Nat.le_of_ble_eq_true rfl⟩) (z_preV hN hK hP hD (zk_lt (rfl : zk 19 = 4) (by decide)) (zx_4 (rfl : zk 19 = 4)) rfl) rfl rfl hl.1 rfl (lv_room (Nat.le_of_ble_eq_true rfl)) dX9_waysToBring_10 ⟨Nat.zero_le _, Nat.zero_le _⟩) hS (fun H locs hP hD hS => ?_)
  refine lv_iconst (v := (0 : Int32)) hx hb dX9_waysToBring_13 (by decide) ?_
  refine lv_istore (lv' := [(4, .int (0 : Int32)), (3, .int (0 : Int32)), (0, .ref (ad 0)), (1, .int p1), (2, .int p2)]) hx hb dX9_waysToBring_14 hl (by decide) rfl (fun ls hl => ?_)
  exact hB16 n σ9 p1 p2 (0 : Int32) (0 : Int32) _ _ _ hF hP hD hS (lv_sub hl [2, 3, 4, 1, 0] rfl)
set_option maxHeartbeats 4000000 in
set_option maxRecDepth 100000 in
theorem CX9_commonDivisor (l : Launch) (D : va_G) (cI cS cP : ClassId) (ad : Nat → Nat) (A : Nat → Prop) (n : Nat) (σ σ' : zMem) (r0 : Int32) (p1 : Int32) (p2 : Int32) (hF : FX9_commonDivisor n σ p1 p2 = some (r0, σ')) : Met l yX9_commonDivisor wsX9_commonDivisor ({ frames := 0, cells := 0, slots := 0, locals := 0 } : Room) (va_Pc [.int p1, .int p2] (zB (zx cI cS cP ad) 41 ad D (zty cI cS cP) A σ)) (va_Qi (fun r u => r = r0 ∧ u = σ') (zB (zx cI cS cP ad) 41 ad D (zty cI cS cP) A) A) 0 0 A := by
  refine Met.ofW (cc := cX9_commonDivisor) (maxL := 3) (ret := (some .int)) (by decide) rfl ?_
  intro p e s m args below meth c s₁ B hml hv
  obtain ⟨rfl, hP, hK, hD, hN⟩ := hv
  have hx := B.exec
  have hb := B.bytes
  have hr := B.returns
  have hts := atoms_spec (ws := wsX9_commonDivisor) B.pre
  have hown : s.vm.findClass RX9 = some m.cls := findClass_of_methodNamed B.named
  have hlocks := B.notSynchronized
  have hS : va_S A s.heap s.heap [] := va_S.rf
  have hl := lv_entry ([.int p1, .int p2]) (n := 3) (Nat.le_of_ble_eq_true rfl)
  rw [lg_entry_eq]
  generalize (lg_sl ([.int p1, .int p2]) ++ List.replicate (3 - (lg_sl ([.int p1, .int p2])).length) Slot.unset).toArray = ls at hl ⊢
  have hl : lv_has ls 3 [(0, .int p1), (1, .int p2)] := hl
  clear B
  have hB2 : ∀ (f2 : Nat) (σ : zMem) (l0 : Int32) (l1 : Int32) (l2 : Int32), ∀ (H : Heap) (locs : List Loc) (ls : Array Slot), zlp (LX9_commonDivisor_2 n) f2 (σ, l0, l1, l2) = some (r0, σ') → va_P D vwCl (zW (zx cI cS cP ad) 41 ad σ) H → va_D A (zW (zx cI cS cP ad) 41 ad σ) → va_S A s.heap H locs → lv_has ls 3 [(0, .int l0), (1, .int l1), (2, .int l2)] → W p l e (headSpec wsX9_commonDivisor ({ frames := 0, cells := 0, slots := 0, locals := 0 } : Room)).room s m ([.int p1, .int p2] : List Value).toArray below meth c H locs 0 0 (MQ below (va_Qi (fun r u => r = r0 ∧ u = σ') (zB (zx cI cS cP ad) 41 ad D (zty cI cS cP) A) A) ([.int p1, .int p2] : List Value).toArray s 0 0 A) (F0 m 2 ls []) := by
    intro f2
    induction f2 with
    | zero => intro σ l0 l1 l2 H locs ls hF hP hD hS hl; exact (zlp_0 hF).elim
    | succ f2 ih2 =>
      intro σ l0 l1 l2 H locs ls hF hP hD hS hl
      have hF : LBX9_commonDivisor_2 n   (zlp (LX9_commonDivisor_2 n) f2) σ l0 l1 l2 = some (r0, σ') := hF
      unfold LBX9_commonDivisor_2 at hF
      refine lv_iload_n hx hb dX9_commonDivisor_2 rfl (lv_at hl 2 rfl) ?_
      refine lv_iconst (v := (1 : Int32)) hx hb dX9_commonDivisor_3 (by decide) ?_
      refine lv_icmp_le (tgt := 27) hx hb dX9_commonDivisor_4 (by decide) (fun b1 => ?_) (fun b1 => ?_)
      · have hF := zif_t b1 hF
        refine lv_iconst (v := (1 : Int32)) hx hb dX9_commonDivisor_27 (by decide) ?_
        exact z_iret hx hb hr hlocks hN hK hP hD hS hF dX9_commonDivisor_28
      · have hF := zif_f b1 hF
        refine lv_iload_n hx hb dX9_commonDivisor_7 rfl (lv_at hl 0 rfl) ?_
        refine lv_iload_n hx hb dX9_commonDivisor_8 rfl (lv_at hl 2 rfl) ?_
        obtain ⟨g2, hF⟩ := zgd_inv hF
        refine lv_irem hx hb dX9_commonDivisor_9 g2 ?_
        refine lv_if_ne (tgt := 21) hx hb dX9_commonDivisor_10 (by decide) (fun b3 => ?_) (fun b3 => ?_)
        · have hF := zif_f b3 hF
          refine lv_iinc (v := (l2 + (-1 : Int32))) (lv' := [(2, .int (l2 + (-1 : Int32))), (0, .int l0), (1, .int l1)]) hx hb dX9_commonDivisor_21 hl (k := 2) rfl rfl (by decide) rfl (fun ls hl => ?_)
          refine lv_goto (tgt := 2) hx hb dX9_commonDivisor_24 (by decide) ?_
          exact ih2 σ l0 l1 (l2 + (-1 : Int32)) _ _ _ hF hP hD hS (lv_sub hl [1, 2, 0] rfl)
        · have hF := zif_t b3 hF
          refine lv_iload_n hx hb dX9_commonDivisor_13 rfl (lv_at hl 1 rfl) ?_
          refine lv_iload_n hx hb dX9_commonDivisor_14 rfl (lv_at hl 2 rfl) ?_
          obtain ⟨g4, hF⟩ := zgd_inv hF
          refine lv_irem hx hb dX9_commonDivisor_15 g4 ?_
          refine lv_if_ne (tgt := 21) hx hb dX9_commonDivisor_16 (by decide) (fun b5 => ?_) (fun b5 => ?_)
          · have hF := zif_f b5 hF
            refine lv_iinc (v := (l2 + (-1 : Int32))) (lv' := [(2, .int (l2 + (-1 : Int32))), (0, .int l0), (1, .int l1)]) hx hb dX9_commonDivisor_21 hl (k := 2) rfl rfl (by decide) rfl (fun ls hl => ?_)
            refine lv_goto (tgt := 2) hx hb dX9_commonDivisor_24 (by decide) ?_
            exact ih2 σ l0 l1 (l2 + (-1 : Int32)) _ _ _ hF hP hD hS (lv_sub hl [1, 2, 0] rfl)
          · have hF := zif_t b5 hF
            refine lv_iload_n hx hb dX9_commonDivisor_19 rfl (lv_at hl 2 rfl) ?_
            exact z_iret hx hb hr hlocks hN hK hP hD hS hF dX9_commonDivisor_20
  unfold FX9_commonDivisor at hF
  refine lv_iload_n hx hb dX9_commonDivisor_0 rfl (lv_at hl 1 rfl) ?_
  refine lv_istore_n (lv' := [(2, .int p2), (0, .int p1), (1, .int p2)]) hx hb dX9_commonDivisor_1 rfl hl (by decide) rfl (fun ls hl => ?_)
  exact hB2 n σ p1 p2 p2 _ _ _ hF hP hD hS (lv_sub hl [1, 2, 0] rfl)
theorem kX9_odds_f20 : Cond.fieldLink RX9 20 "LeastAsked" "now" "LLeastAsked$Province;" ∈ wsX9_odds := by decide +kernel
theorem kX9_odds_L208 : Cond.constantLong RX9 208 (-9223372036854775808) ∈ wsX9_odds := by decide +kernel
theorem iX9_odds_X9 : ∀ w ∈ u_ws RX9 TX9 11, w ∈ wsX9_odds := fun _ h => List.mem_cons_of_mem _ (List.mem_append_left _ (List.mem_append_left _ (List.mem_append_right _ h)))
set_option maxHeartbeats 4000000 in
set_option maxRecDepth 100000 in
theorem CX9_odds (l : Launch) (D : va_G) (cI cS cP : ClassId) (ad : Nat → Nat) (A : Nat → Prop) (n : Nat) (σ σ' : zMem) (r0 : Int64) (p1 : Int32) (p2 : Int32) (p3 : Int32) (hF : FX9_odds n σ p1 p2 p3 = some (r0, σ')) : Met l yX9_odds wsX9_odds ({ frames := 3, cells := 0, slots := 0, locals := 87 } : Room) (va_Pc [.ref (ad 0), .int p1, .int p2, .int p3] (zB (zx cI cS cP ad) 41 ad D (zty cI cS cP) A σ)) (va_Ql (fun r u => r = r0 ∧ u = σ') (zB (zx cI cS cP ad) 41 ad D (zty cI cS cP) A) A) 0 0 A := by
  refine Met.ofW (cc := cX9_odds) (maxL := 7) (ret := (some .long)) (by decide) rfl ?_
  intro p e s m args below meth c s₁ B hml hv
  obtain ⟨rfl, hP, hK, hD, hN⟩ := hv
  have hx := B.exec
  have hb := B.bytes
  have hr := B.returns
  have hts := atoms_spec (ws := wsX9_odds) B.pre
  have hown : s.vm.findClass RX9 = some m.cls := findClass_of_methodNamed B.named
  have hlocks := B.notSynchronized
  have hS : va_S A s.heap s.heap [] := va_S.rf
  have hl := lv_entry ([.ref (ad 0), .int p1, .int p2, .int p3]) (n := 7) (Nat.le_of_ble_eq_true rfl)
  rw [lg_entry_eq]
  generalize (lg_sl ([.ref (ad 0), .int p1, .int p2, .int p3]) ++ List.replicate (7 - (lg_sl ([.ref (ad 0), .int p1, .int p2, .int p3])).length) Slot.unset).toArray = ls at hl ⊢
  have hl : lv_has ls 7 [(0, .ref (ad 0)), (1, .int p1), (2, .int p2), (3, .int p3)] := hl
  clear B
  unfold FX9_odds at hF
  refine lv_aload_n hx hb dX9_odds_0 rfl (lv_at hl 0 rfl) ?_
  refine z_get (ci := 8) (C := RX9) (T := TX9) (N := 11) hx hb hts iX9_odds_X9 hown hK hP (zk_lt (rfl : zk 0 = 8) (by decide)) (zx_8 (rfl : zk 0 = 8)) rfl 1 (by decide) kX9_odds_f20 rfl (v := .ref (ad 10)) rfl dX9_odds_1 ?_
  refine lv_iload_n hx hb dX9_odds_4 rfl (lv_at hl 1 rfl) ?_
  obtain ⟨r2, σ1, hC3, hF⟩ := zbd_inv hF
  refine z_calli (va_runV (As := [.int p1]) (rest := []) ⟨hx, hb, hml, hown, hts⟩ (CX4_hasPerson l D cI cS cP ad A n σ σ1 r2 10 p1 (rfl : zk 10 = 4) hC3) (cwV 1 hts gX9_odds_X4_hasPerson rfl rfl rfl (by decide +kernel) ⟨Nat.le_of_ble_eq_true rfl, Nat.le_of_ble_eq_true rfl⟩) (z_preV hN hK hP hD (zk_lt (rfl : zk 10 = 4) (by decide)) (zx_4 (rfl : zk 10 = 4)) rfl) rfl rfl hl.1 rfl (lv_room (Nat.le_of_ble_eq_true rfl)) dX9_odds_5 ⟨Nat.zero_le _, Nat.zero_le _⟩) hS (fun H locs hP hD hS => ?_)
  refine lv_if_eq (tgt := 31) hx hb dX9_odds_8 (by decide) (fun b4 => ?_) (fun b4 => ?_)
  · have hF := zif_t b4 hF
    refine lv_ldc2 (v := (-9223372036854775808 : Int64)) hx hb hown (hts _ kX9_odds_L208) dX9_odds_31 ?_
    exact z_lret hx hb hr hlocks hN hK hP hD hS hF dX9_odds_34
  · have hF := zif_f b4 hF
    refine lv_iload_n hx hb dX9_odds_11 rfl (lv_at hl 2 rfl) ?_
    refine lv_if_lt (tgt := 31) hx hb dX9_odds_12 (by decide) (fun b5 => ?_) (fun b5 => ?_)
    · have hF := zif_t b5 hF
      refine lv_ldc2 (v := (-9223372036854775808 : Int64)) hx hb hown (hts _ kX9_odds_L208) dX9_odds_31 ?_
      exact z_lret hx hb hr hlocks hN hK hP hD hS hF dX9_odds_34
    · have hF := zif_f b5 hF
      refine lv_iload_n hx hb dX9_odds_15 rfl (lv_at hl 2 rfl) ?_
      refine lv_sipush (v := (200 : Int32)) hx hb dX9_odds_16 (by decide) ?_
      refine lv_icmp_gt (tgt := 31) hx hb dX9_odds_19 (by decide) (fun b6 => ?_) (fun b6 => ?_)
      · have hF := zif_t b6 hF
        refine lv_ldc2 (v := (-9223372036854775808 : Int64)) hx hb hown (hts _ kX9_odds_L208) dX9_odds_31 ?_
        exact z_lret hx hb hr hlocks hN hK hP hD hS hF dX9_odds_34
      · have hF := zif_f b6 hF
        refine lv_iload_n hx hb dX9_odds_22 rfl (lv_at hl 3 rfl) ?_
        refine lv_if_lt (tgt := 31) hx hb dX9_odds_23 (by decide) (fun b7 => ?_) (fun b7 => ?_)
        · have hF := zif_t b7 hF
          refine lv_ldc2 (v := (-9223372036854775808 : Int64)) hx hb hown (hts _ kX9_odds_L208) dX9_odds_31 ?_
          exact z_lret hx hb hr hlocks hN hK hP hD hS hF dX9_odds_34
        · have hF := zif_f b7 hF
          refine lv_iload_n hx hb dX9_odds_26 rfl (lv_at hl 3 rfl) ?_
          refine lv_iconst (v := (1 : Int32)) hx hb dX9_odds_27 (by decide) ?_
          refine lv_icmp_le (tgt := 35) hx hb dX9_odds_28 (by decide) (fun b8 => ?_) (fun b8 => ?_)
          · have hF := zif_t b8 hF
            refine lv_bipush (v := (24 : Int32)) hx hb dX9_odds_35 (by decide) ?_
            refine lv_istore (lv' := [(4, .int (24 : Int32)), (0, .ref (ad 0)), (1, .int p1), (2, .int p2), (3, .int p3)]) hx hb dX9_odds_37 hl (by decide) rfl (fun ls hl => ?_)
            refine lv_aload_n hx hb dX9_odds_39 rfl (lv_at hl 1 rfl) ?_
            refine lv_iload_n hx hb dX9_odds_40 rfl (lv_at hl 2 rfl) ?_
            refine lv_iload_n hx hb dX9_odds_41 rfl (lv_at hl 3 rfl) ?_
            obtain ⟨r10, σ9, hC11, hF⟩ := zbd_inv hF
            refine z_calli (va_runV (As := [.int p1, .int p2]) (rest := []) ⟨hx, hb, hml, hown, hts⟩ (CX9_waysToBring l D cI cS cP ad A n σ1 σ9 r10 p1 p2 hC11) (cwV 2 hts gX9_odds_X9_waysToBring rfl rfl rfl (by decide +kernel) ⟨Nat.le_of_ble_eq_true rfl, Nat.le_of_ble_eq_true rfl⟩) (z_preV hN hK hP hD (zk_lt (rfl : zk 0 = 8) (by decide)) (zx_8 (rfl : zk 0 = 8)) rfl) rfl rfl hl.1 rfl (lv_room (Nat.le_of_ble_eq_true rfl)) dX9_odds_42 ⟨Nat.zero_le _, Nat.zero_le _⟩) hS (fun H locs hP hD hS => ?_)
            refine lv_istore (lv' := [(5, .int r10), (4, .int (24 : Int32)), (0, .ref (ad 0)), (1, .int p1), (2, .int p2), (3, .int p3)]) hx hb dX9_odds_45 hl (by decide) rfl (fun ls hl => ?_)
            refine lv_iload hx hb dX9_odds_47 (lv_at hl 0 rfl) ?_
            refine lv_iload hx hb dX9_odds_49 (lv_at hl 1 rfl) ?_
            obtain ⟨r13, σ12, hC14, hF⟩ := zbd_inv hF
            refine z_calli (va_runS (As := [.int r10, .int (24 : Int32)]) (rest := []) ⟨hx, hb, hml, hown, hts⟩ (CX9_commonDivisor l D cI cS cP ad A n σ9 σ12 r13 r10 (24 : Int32) hC14) (va_cwS 2 hts gX9_odds_X9_commonDivisor rfl rfl rfl (by decide +kernel) ⟨Nat.le_of_ble_eq_true rfl, Nat.le_of_ble_eq_true rfl⟩) (z_preS hN hK hP hD) rfl rfl hl.1 rfl (lv_room (Nat.le_of_ble_eq_true rfl)) dX9_odds_51 ⟨Nat.zero_le _, Nat.zero_le _⟩) hS (fun H locs hP hD hS => ?_)
            refine lv_istore (lv' := [(6, .int r13), (5, .int r10), (4, .int (24 : Int32)), (0, .ref (ad 0)), (1, .int p1), (2, .int p2), (3, .int p3)]) hx hb dX9_odds_54 hl (by decide) rfl (fun ls hl => ?_)
            refine lv_iload_n hx hb dX9_odds_56 rfl (lv_at hl 6 rfl) ?_
            refine lv_if_ne (tgt := 69) hx hb dX9_odds_57 (by decide) (fun b15 => ?_) (fun b15 => ?_)
            · have hF := zif_f b15 hF
              refine lv_iload hx hb dX9_odds_69 (lv_at hl 2 rfl) ?_
              refine lv_iload hx hb dX9_odds_71 (lv_at hl 0 rfl) ?_
              obtain ⟨g16, hF⟩ := zgd_inv hF
              refine lv_idiv hx hb dX9_odds_73 g16 ?_
              refine lv_i2l (v := (((24 : Int32) / r13) : Int32).toInt64) hx hb dX9_odds_74 rfl ?_
              exact z_lret hx hb hr hlocks hN hK hP hD hS hF dX9_odds_75
            · have hF := zif_t b15 hF
              refine lv_iload hx hb dX9_odds_60 (lv_at hl 1 rfl) ?_
              refine lv_iload hx hb dX9_odds_62 (lv_at hl 0 rfl) ?_
              obtain ⟨g17, hF⟩ := zgd_inv hF
              refine lv_idiv hx hb dX9_odds_64 g17 ?_
              refine lv_i2l (v := ((r10 / r13) : Int32).toInt64) hx hb dX9_odds_65 rfl ?_
              refine lv_goto (tgt := 75) hx hb dX9_odds_66 (by decide) ?_
              exact z_lret hx hb hr hlocks hN hK hP hD hS hF dX9_odds_75
          · have hF := zif_f b8 hF
            refine lv_ldc2 (v := (-9223372036854775808 : Int64)) hx hb hown (hts _ kX9_odds_L208) dX9_odds_31 ?_
            exact z_lret hx hb hr hlocks hN hK hP hD hS hF dX9_odds_34
theorem kX9_sheet_f69 : Cond.fieldLink RX9 69 "LeastAsked" "lastFault" "I" ∈ wsX9_sheet := by decide +kernel
theorem kX9_sheet_f13 : Cond.fieldLink RX9 13 "LeastAsked" "sheets" "[LLeastAsked$Sheet;" ∈ wsX9_sheet := by decide +kernel
theorem iX9_sheet_X9 : ∀ w ∈ u_ws RX9 TX9 11, w ∈ wsX9_sheet := fun _ h => List.mem_cons_of_mem _ (List.mem_append_left _ (List.mem_append_right _ h))
set_option maxHeartbeats 4000000 in
set_option maxRecDepth 100000 in
theorem CX9_sheet (l : Launch) (D : va_G) (cI cS cP : ClassId) (ad : Nat → Nat) (A : Nat → Prop) (n : Nat) (σ σ' : zMem) (r0 : Int32) (p1 : Int32) (p2 : Int32) (p3 : Int32) (hF : FX9_sheet n σ p1 p2 p3 = some (r0, σ')) : Met l yX9_sheet wsX9_sheet ({ frames := 2, cells := 0, slots := 0, locals := 45 } : Room) (va_Pc [.ref (ad 0), .int p1, .int p2, .int p3] (zB (zx cI cS cP ad) 41 ad D (zty cI cS cP) A σ)) (va_Qi (fun r u => r = r0 ∧ u = σ') (zB (zx cI cS cP ad) 41 ad D (zty cI cS cP) A) A) 0 0 A := by
  refine Met.ofW (cc := cX9_sheet) (maxL := 4) (ret := (some .int)) (by decide) rfl ?_
  intro p e s m args below meth c s₁ B hml hv
  obtain ⟨rfl, hP, hK, hD, hN⟩ := hv
  have hx := B.exec
  have hb := B.bytes
  have hr := B.returns
  have hts := atoms_spec (ws := wsX9_sheet) B.pre
  have hown : s.vm.findClass RX9 = some m.cls := findClass_of_methodNamed B.named
  have hlocks := B.notSynchronized
  have hS : va_S A s.heap s.heap [] := va_S.rf
  have hl := lv_entry ([.ref (ad 0), .int p1, .int p2, .int p3]) (n := 4) (Nat.le_of_ble_eq_true rfl)
  rw [lg_entry_eq]
  generalize (lg_sl ([.ref (ad 0), .int p1, .int p2, .int p3]) ++ List.replicate (4 - (lg_sl ([.ref (ad 0), .int p1, .int p2, .int p3])).length) Slot.unset).toArray = ls at hl ⊢
  have hl : lv_has ls 4 [(0, .ref (ad 0)), (1, .int p1), (2, .int p2), (3, .int p3)] := hl
  clear B
  unfold FX9_sheet at hF
  refine lv_aload_n hx hb dX9_sheet_0 rfl (lv_at hl 0 rfl) ?_
  refine lv_iconst (v := (0 : Int32)) hx hb dX9_sheet_1 (by decide) ?_
  obtain ⟨σ1, eσ1, hF⟩ := zlet_inv hF
  refine z_put (ci := 8) (C := RX9) (T := TX9) (N := 11) hx hb hts iX9_sheet_X9 tyX9 tyX9_ok nmX9 hown hK hP hD hS (zk_lt (rfl : zk 0 = 8) (by decide)) (zx_8 (rfl : zk 0 = 8)) rfl 10 (by decide) kX9_sheet_f69 rfl rfl rfl rfl (Nat.le_of_ble_eq_true rfl) (zx_8 (rfl : zk 0 = 8)) dX9_sheet_2 (fun H locs hP hD hS => ?_)
  have hP : va_P D vwCl (zW (zx cI cS cP ad) 41 ad σ1) H := by rw [eσ1]; exact hP
  have hD : va_D A (zW (zx cI cS cP ad) 41 ad σ1) := by rw [eσ1]; exact hD
  refine lv_iload_n hx hb dX9_sheet_5 rfl (lv_at hl 1 rfl) ?_
  obtain ⟨r3, σ2, hC4, hF⟩ := zbd_inv hF
  refine z_calli (va_runS (As := [.int p1]) (rest := []) ⟨hx, hb, hml, hown, hts⟩ (CX9_isSheet l D cI cS cP ad A n σ1 σ2 r3 p1 hC4) (va_cwS 1 hts gX9_sheet_X9_isSheet rfl rfl rfl (by decide +kernel) ⟨Nat.le_of_ble_eq_true rfl, Nat.le_of_ble_eq_true rfl⟩) (z_preS hN hK hP hD) rfl rfl hl.1 rfl (lv_room (Nat.le_of_ble_eq_true rfl)) dX9_sheet_6 ⟨Nat.zero_le _, Nat.zero_le _⟩) hS (fun H locs hP hD hS => ?_)
  refine lv_if_ne (tgt := 14) hx hb dX9_sheet_9 (by decide) (fun b5 => ?_) (fun b5 => ?_)
  · have hF := zif_f b5 hF
    refine lv_iload_n hx hb dX9_sheet_14 rfl (lv_at hl 2 rfl) ?_
    obtain ⟨r7, σ6, hC8, hF⟩ := zbd_inv hF
    refine z_calli (va_runS (As := [.int p2]) (rest := []) ⟨hx, hb, hml, hown, hts⟩ (CX9_isLane l D cI cS cP ad A n σ2 σ6 r7 p2 hC8) (va_cwS 1 hts gX9_sheet_X9_isLane rfl rfl rfl (by decide +kernel) ⟨Nat.le_of_ble_eq_true rfl, Nat.le_of_ble_eq_true rfl⟩) (z_preS hN hK hP hD) rfl rfl hl.1 rfl (lv_room (Nat.le_of_ble_eq_true rfl)) dX9_sheet_15 ⟨Nat.zero_le _, Nat.zero_le _⟩) hS (fun H locs hP hD hS => ?_)
    refine lv_if_eq (tgt := 27) hx hb dX9_sheet_18 (by decide) (fun b9 => ?_) (fun b9 => ?_)
    · have hF := zif_t b9 hF
      refine lv_bipush (v := (-2 : Int32)) hx hb dX9_sheet_27 (by decide) ?_
      exact z_iret hx hb hr hlocks hN hK hP hD hS hF dX9_sheet_29
    · have hF := zif_f b9 hF
      refine lv_iload_n hx hb dX9_sheet_21 rfl (lv_at hl 3 rfl) ?_
      refine lv_bipush (v := (60 : Int32)) hx hb dX9_sheet_22 (by decide) ?_
      refine lv_icmp_le (tgt := 30) hx hb dX9_sheet_24 (by decide) (fun b10 => ?_) (fun b10 => ?_)
      · have hF := zif_t b10 hF
        refine lv_iload_n hx hb dX9_sheet_30 rfl (lv_at hl 3 rfl) ?_
        refine lv_if_ge (tgt := 40) hx hb dX9_sheet_31 (by decide) (fun b11 => ?_) (fun b11 => ?_)
        · have hF := zif_t b11 hF
          refine lv_aload_n hx hb dX9_sheet_40 rfl (lv_at hl 0 rfl) ?_
          refine z_get (ci := 8) (C := RX9) (T := TX9) (N := 11) hx hb hts iX9_sheet_X9 hown hK hP (zk_lt (rfl : zk 0 = 8) (by decide)) (zx_8 (rfl : zk 0 = 8)) rfl 0 (by decide) kX9_sheet_f13 rfl (v := .ref (ad 1)) rfl dX9_sheet_41 ?_
          refine lv_iload_n hx hb dX9_sheet_44 rfl (lv_at hl 1 rfl) ?_
          obtain ⟨g12, hF⟩ := zgd_inv hF
          refine z_aldq hx hb hK hP 1 (zk_lt (rfl : zk 1 = 21) (by decide)) (zx_21 (rfl : zk 1 = 21)) rfl g12 dX9_sheet_45 ?_
          refine lv_iload_n hx hb dX9_sheet_46 rfl (lv_at hl 2 rfl) ?_
          refine lv_iload_n hx hb dX9_sheet_47 rfl (lv_at hl 3 rfl) ?_
          obtain ⟨r14, σ13, hC15, hF⟩ := zbd_inv hF
          refine z_callv (va_runV (As := [.int p2, .int p3]) (rest := []) ⟨hx, hb, hml, hown, hts⟩ (CX6_begin l D cI cS cP ad A n σ6 σ13 r14 (2 + (p1 : Int32).toNatClampNeg) p2 p3 (zk_21s (rfl : zk 1 = 21) g12) hC15) (cwV 2 hts gX9_sheet_X6_begin rfl rfl rfl (by decide +kernel) ⟨Nat.le_of_ble_eq_true rfl, Nat.le_of_ble_eq_true rfl⟩) (z_preV hN hK hP hD (zk_lt (zk_21s (rfl : zk 1 = 21) g12) (by decide)) (zx_6 (zk_21s (rfl : zk 1 = 21) g12)) rfl) rfl rfl hl.1 rfl (lv_room (Nat.le_of_ble_eq_true rfl)) dX9_sheet_48 ⟨Nat.zero_le _, Nat.zero_le _⟩) hS (fun H locs hP hD hS => ?_)
          refine lv_iconst (v := (1 : Int32)) hx hb dX9_sheet_51 (by decide) ?_
          exact z_iret hx hb hr hlocks hN hK hP hD hS hF dX9_sheet_52
        · have hF := zif_f b11 hF
          refine lv_aload_n hx hb dX9_sheet_34 rfl (lv_at hl 0 rfl) ?_
          refine lv_iconst (v := (4 : Int32)) hx hb dX9_sheet_35 (by decide) ?_
          obtain ⟨r17, σ16, hC18, hF⟩ := zbd_inv hF
          refine z_calli (va_runV (As := [.int (4 : Int32)]) (rest := []) ⟨hx, hb, hml, hown, hts⟩ (CX9_failed l D cI cS cP ad A n σ6 σ16 r17 (4 : Int32) hC18) (cwV 1 hts gX9_sheet_X9_failed rfl rfl rfl (by decide +kernel) ⟨Nat.le_of_ble_eq_true rfl, Nat.le_of_ble_eq_true rfl⟩) (z_preV hN hK hP hD (zk_lt (rfl : zk 0 = 8) (by decide)) (zx_8 (rfl : zk 0 = 8)) rfl) rfl rfl hl.1 rfl (lv_room (Nat.le_of_ble_eq_true rfl)) dX9_sheet_36 ⟨Nat.zero_le _, Nat.zero_le _⟩) hS (fun H locs hP hD hS => ?_)
          exact z_iret hx hb hr hlocks hN hK hP hD hS hF dX9_sheet_39
      · have hF := zif_f b10 hF
        refine lv_bipush (v := (-2 : Int32)) hx hb dX9_sheet_27 (by decide) ?_
        exact z_iret hx hb hr hlocks hN hK hP hD hS hF dX9_sheet_29
  · have hF := zif_t b5 hF
    refine lv_iconst (v := (-1 : Int32)) hx hb dX9_sheet_12 (by decide) ?_
    exact z_iret hx hb hr hlocks hN hK hP hD hS hF dX9_sheet_13
theorem kX9_lose_f13 : Cond.fieldLink RX9 13 "LeastAsked" "sheets" "[LLeastAsked$Sheet;" ∈ wsX9_lose := by decide +kernel
theorem kX9_lose_f220 : Cond.fieldLink RX9 220 "LeastAsked$Sheet" "filled" "Z" ∈ wsX9_lose := by decide +kernel
theorem iX9_lose_X9 : ∀ w ∈ u_ws RX9 TX9 11, w ∈ wsX9_lose := fun _ h => List.mem_cons_of_mem _ (List.mem_append_left _ (List.mem_append_right _ h))
theorem iX9_lose_X6 : ∀ w ∈ u_ws RX6 TX6 4, w ∈ wsX9_lose := fun _ h => List.mem_cons_of_mem _ (List.mem_append_right _ h)
set_option maxHeartbeats 4000000 in
set_option maxRecDepth 100000 in
theorem CX9_lose (l : Launch) (D : va_G) (cI cS cP : ClassId) (ad : Nat → Nat) (A : Nat → Prop) (n : Nat) (σ σ' : zMem) (r0 : Int32) (p1 : Int32) (hF : FX9_lose n σ p1 = some (r0, σ')) : Met l yX9_lose wsX9_lose ({ frames := 2, cells := 0, slots := 0, locals := 41 } : Room) (va_Pc [.ref (ad 0), .int p1] (zB (zx cI cS cP ad) 41 ad D (zty cI cS cP) A σ)) (va_Qi (fun r u => r = r0 ∧ u = σ') (zB (zx cI cS cP ad) 41 ad D (zty cI cS cP) A) A) 0 0 A := by
  refine Met.ofW (cc := cX9_lose) (maxL := 3) (ret := (some .int)) (by decide) rfl ?_
  intro p e s m args below meth c s₁ B hml hv
  obtain ⟨rfl, hP, hK, hD, hN⟩ := hv
  have hx := B.exec
  have hb := B.bytes
  have hr := B.returns
  have hts := atoms_spec (ws := wsX9_lose) B.pre
  have hown : s.vm.findClass RX9 = some m.cls := findClass_of_methodNamed B.named
  have hlocks := B.notSynchronized
  have hS : va_S A s.heap s.heap [] := va_S.rf
  have hl := lv_entry ([.ref (ad 0), .int p1]) (n := 3) (Nat.le_of_ble_eq_true rfl)
  rw [lg_entry_eq]
  generalize (lg_sl ([.ref (ad 0), .int p1]) ++ List.replicate (3 - (lg_sl ([.ref (ad 0), .int p1])).length) Slot.unset).toArray = ls at hl ⊢
  have hl : lv_has ls 3 [(0, .ref (ad 0)), (1, .int p1)] := hl
  clear B
  have hB26 : ∀ (σ : zMem) (l1 : Int32) (s0 : Int32), ∀ (H : Heap) (locs : List Loc) (ls : Array Slot), BX9_lose_26 n σ l1 s0 = some (r0, σ') → va_P D vwCl (zW (zx cI cS cP ad) 41 ad σ) H → va_D A (zW (zx cI cS cP ad) 41 ad σ) → va_S A s.heap H locs → lv_has ls 3 [(0, .ref (ad 0)), (1, .int l1)] → W p l e (headSpec wsX9_lose ({ frames := 2, cells := 0, slots := 0, locals := 41 } : Room)).room s m ([.ref (ad 0), .int p1] : List Value).toArray below meth c H locs 0 0 (MQ below (va_Qi (fun r u => r = r0 ∧ u = σ') (zB (zx cI cS cP ad) 41 ad D (zty cI cS cP) A) A) ([.ref (ad 0), .int p1] : List Value).toArray s 0 0 A) (F0 m 26 ls [.int s0]) := by
    intro σ l1 s0 H locs ls hF hP hD hS hl
    unfold BX9_lose_26 at hF
    refine lv_istore_n (lv' := [(2, .int s0), (0, .ref (ad 0)), (1, .int l1)]) hx hb dX9_lose_26 rfl hl (by decide) rfl (fun ls hl => ?_)
    refine lv_aload_n hx hb dX9_lose_27 rfl (lv_at hl 1 rfl) ?_
    refine z_get (ci := 8) (C := RX9) (T := TX9) (N := 11) hx hb hts iX9_lose_X9 hown hK hP (zk_lt (rfl : zk 0 = 8) (by decide)) (zx_8 (rfl : zk 0 = 8)) rfl 0 (by decide) kX9_lose_f13 rfl (v := .ref (ad 1)) rfl dX9_lose_28 ?_
    refine lv_iload_n hx hb dX9_lose_31 rfl (lv_at hl 2 rfl) ?_
    obtain ⟨g1, hF⟩ := zgd_inv hF
    refine z_aldq hx hb hK hP 1 (zk_lt (rfl : zk 1 = 21) (by decide)) (zx_21 (rfl : zk 1 = 21)) rfl g1 dX9_lose_32 ?_
    refine lv_iconst (v := (0 : Int32)) hx hb dX9_lose_33 (by decide) ?_
    obtain ⟨σ2, eσ2, hF⟩ := zlet_inv hF
    refine z_put (ci := 6) (C := RX6) (T := TX6) (N := 4) hx hb hts iX9_lose_X6 tyX6 tyX6_ok nmX6 hown hK hP hD hS (zk_lt (zk_21s (rfl : zk 1 = 21) g1) (by decide)) (zx_6 (zk_21s (rfl : zk 1 = 21) g1)) rfl 1 (by decide) kX9_lose_f220 rfl rfl rfl rfl (Nat.le_of_ble_eq_true rfl) (zx_6 (zk_21s (rfl : zk 1 = 21) g1)) dX9_lose_34 (fun H locs hP hD hS => ?_)
    have hP : va_P D vwCl (zW (zx cI cS cP ad) 41 ad σ2) H := by rw [eσ2]; exact hP
    have hD : va_D A (zW (zx cI cS cP ad) 41 ad σ2) := by rw [eσ2]; exact hD
    refine lv_iload_n hx hb dX9_lose_37 rfl (lv_at hl 0 rfl) ?_
    exact z_iret hx hb hr hlocks hN hK hP hD hS hF dX9_lose_38
  unfold FX9_lose at hF
  refine lv_iload_n hx hb dX9_lose_0 rfl (lv_at hl 1 rfl) ?_
  obtain ⟨r4, σ3, hC5, hF⟩ := zbd_inv hF
  refine z_calli (va_runS (As := [.int p1]) (rest := []) ⟨hx, hb, hml, hown, hts⟩ (CX9_isSheet l D cI cS cP ad A n σ σ3 r4 p1 hC5) (va_cwS 1 hts gX9_lose_X9_isSheet rfl rfl rfl (by decide +kernel) ⟨Nat.le_of_ble_eq_true rfl, Nat.le_of_ble_eq_true rfl⟩) (z_preS hN hK hP hD) rfl rfl hl.1 rfl (lv_room (Nat.le_of_ble_eq_true rfl)) dX9_lose_1 ⟨Nat.zero_le _, Nat.zero_le _⟩) hS (fun H locs hP hD hS => ?_)
  refine lv_if_ne (tgt := 9) hx hb dX9_lose_4 (by decide) (fun b6 => ?_) (fun b6 => ?_)
  · have hF := zif_f b6 hF
    refine lv_aload_n hx hb dX9_lose_9 rfl (lv_at hl 0 rfl) ?_
    refine z_get (ci := 8) (C := RX9) (T := TX9) (N := 11) hx hb hts iX9_lose_X9 hown hK hP (zk_lt (rfl : zk 0 = 8) (by decide)) (zx_8 (rfl : zk 0 = 8)) rfl 0 (by decide) kX9_lose_f13 rfl (v := .ref (ad 1)) rfl dX9_lose_10 ?_
    refine lv_iload_n hx hb dX9_lose_13 rfl (lv_at hl 1 rfl) ?_
    obtain ⟨g7, hF⟩ := zgd_inv hF
    refine z_aldq hx hb hK hP 1 (zk_lt (rfl : zk 1 = 21) (by decide)) (zx_21 (rfl : zk 1 = 21)) rfl g7 dX9_lose_14 ?_
    refine z_get (ci := 6) (C := RX6) (T := TX6) (N := 4) hx hb hts iX9_lose_X6 hown hK hP (zk_lt (zk_21s (rfl : zk 1 = 21) g7) (by decide)) (zx_6 (zk_21s (rfl : zk 1 = 21) g7)) rfl 1 (by decide) kX9_lose_f220 rfl (v := .int (σ3 (2 + (p1 : Int32).toNatClampNeg) 1)) rfl dX9_lose_15 ?_
    refine lv_if_eq (tgt := 25) hx hb dX9_lose_18 (by decide) (fun b8 => ?_) (fun b8 => ?_)
    · have hF := zif_t b8 hF
      refine lv_iconst (v := (0 : Int32)) hx hb dX9_lose_25 (by decide) ?_
      exact hB26 σ3 p1 (0 : Int32) _ _ _ hF hP hD hS (lv_sub hl [0, 1] rfl)
    · have hF := zif_f b8 hF
      refine lv_iconst (v := (1 : Int32)) hx hb dX9_lose_21 (by decide) ?_
      refine lv_goto (tgt := 26) hx hb dX9_lose_22 (by decide) ?_
      exact hB26 σ3 p1 (1 : Int32) _ _ _ hF hP hD hS (lv_sub hl [0, 1] rfl)
  · have hF := zif_t b6 hF
    refine lv_iconst (v := (-1 : Int32)) hx hb dX9_lose_7 (by decide) ?_
    exact z_iret hx hb hr hlocks hN hK hP hD hS hF dX9_lose_8
theorem kX9_put_f69 : Cond.fieldLink RX9 69 "LeastAsked" "lastFault" "I" ∈ wsX9_put := by decide +kernel
theorem kX9_put_f13 : Cond.fieldLink RX9 13 "LeastAsked" "sheets" "[LLeastAsked$Sheet;" ∈ wsX9_put := by decide +kernel
theorem kX9_put_f220 : Cond.fieldLink RX9 220 "LeastAsked$Sheet" "filled" "Z" ∈ wsX9_put := by decide +kernel
theorem kX9_put_f224 : Cond.fieldLink RX9 224 "LeastAsked$Sheet" "length" "I" ∈ wsX9_put := by decide +kernel
theorem kX9_put_f184 : Cond.fieldLink RX9 184 "LeastAsked$Sheet" "cells" "[I" ∈ wsX9_put := by decide +kernel
theorem iX9_put_X9 : ∀ w ∈ u_ws RX9 TX9 11, w ∈ wsX9_put := fun _ h => List.mem_cons_of_mem _ (List.mem_append_left _ (List.mem_append_right _ h))
theorem iX9_put_X6 : ∀ w ∈ u_ws RX6 TX6 4, w ∈ wsX9_put := fun _ h => List.mem_cons_of_mem _ (List.mem_append_right _ h)
set_option maxHeartbeats 4000000 in
set_option maxRecDepth 100000 in
theorem CX9_put (l : Launch) (D : va_G) (cI cS cP : ClassId) (ad : Nat → Nat) (A : Nat → Prop) (n : Nat) (σ σ' : zMem) (r0 : Int32) (p1 : Int32) (p2 : Int32) (p3 : Int32) (hF : FX9_put n σ p1 p2 p3 = some (r0, σ')) : Met l yX9_put wsX9_put ({ frames := 2, cells := 0, slots := 0, locals := 41 } : Room) (va_Pc [.ref (ad 0), .int p1, .int p2, .int p3] (zB (zx cI cS cP ad) 41 ad D (zty cI cS cP) A σ)) (va_Qi (fun r u => r = r0 ∧ u = σ') (zB (zx cI cS cP ad) 41 ad D (zty cI cS cP) A) A) 0 0 A := by
  refine Met.ofW (cc := cX9_put) (maxL := 5) (ret := (some .int)) (by decide) rfl ?_
  intro p e s m args below meth c s₁ B hml hv
  obtain ⟨rfl, hP, hK, hD, hN⟩ := hv
  have hx := B.exec
  have hb := B.bytes
  have hr := B.returns
  have hts := atoms_spec (ws := wsX9_put) B.pre
  have hown : s.vm.findClass RX9 = some m.cls := findClass_of_methodNamed B.named
  have hlocks := B.notSynchronized
  have hS : va_S A s.heap s.heap [] := va_S.rf
  have hl := lv_entry ([.ref (ad 0), .int p1, .int p2, .int p3]) (n := 5) (Nat.le_of_ble_eq_true rfl)
  rw [lg_entry_eq]
  generalize (lg_sl ([.ref (ad 0), .int p1, .int p2, .int p3]) ++ List.replicate (5 - (lg_sl ([.ref (ad 0), .int p1, .int p2, .int p3])).length) Slot.unset).toArray = ls at hl ⊢
  have hl : lv_has ls 5 [(0, .ref (ad 0)), (1, .int p1), (2, .int p2), (3, .int p3)] := hl
  clear B
  unfold FX9_put at hF
  refine lv_aload_n hx hb dX9_put_0 rfl (lv_at hl 0 rfl) ?_
  refine lv_iconst (v := (0 : Int32)) hx hb dX9_put_1 (by decide) ?_
  obtain ⟨σ1, eσ1, hF⟩ := zlet_inv hF
  refine z_put (ci := 8) (C := RX9) (T := TX9) (N := 11) hx hb hts iX9_put_X9 tyX9 tyX9_ok nmX9 hown hK hP hD hS (zk_lt (rfl : zk 0 = 8) (by decide)) (zx_8 (rfl : zk 0 = 8)) rfl 10 (by decide) kX9_put_f69 rfl rfl rfl rfl (Nat.le_of_ble_eq_true rfl) (zx_8 (rfl : zk 0 = 8)) dX9_put_2 (fun H locs hP hD hS => ?_)
  have hP : va_P D vwCl (zW (zx cI cS cP ad) 41 ad σ1) H := by rw [eσ1]; exact hP
  have hD : va_D A (zW (zx cI cS cP ad) 41 ad σ1) := by rw [eσ1]; exact hD
  refine lv_iload_n hx hb dX9_put_5 rfl (lv_at hl 1 rfl) ?_
  obtain ⟨r3, σ2, hC4, hF⟩ := zbd_inv hF
  refine z_calli (va_runS (As := [.int p1]) (rest := []) ⟨hx, hb, hml, hown, hts⟩ (CX9_isSheet l D cI cS cP ad A n σ1 σ2 r3 p1 hC4) (va_cwS 1 hts gX9_put_X9_isSheet rfl rfl rfl (by decide +kernel) ⟨Nat.le_of_ble_eq_true rfl, Nat.le_of_ble_eq_true rfl⟩) (z_preS hN hK hP hD) rfl rfl hl.1 rfl (lv_room (Nat.le_of_ble_eq_true rfl)) dX9_put_6 ⟨Nat.zero_le _, Nat.zero_le _⟩) hS (fun H locs hP hD hS => ?_)
  refine lv_if_ne (tgt := 14) hx hb dX9_put_9 (by decide) (fun b5 => ?_) (fun b5 => ?_)
  · have hF := zif_f b5 hF
    refine lv_aload_n hx hb dX9_put_14 rfl (lv_at hl 0 rfl) ?_
    refine z_get (ci := 8) (C := RX9) (T := TX9) (N := 11) hx hb hts iX9_put_X9 hown hK hP (zk_lt (rfl : zk 0 = 8) (by decide)) (zx_8 (rfl : zk 0 = 8)) rfl 0 (by decide) kX9_put_f13 rfl (v := .ref (ad 1)) rfl dX9_put_15 ?_
    refine lv_iload_n hx hb dX9_put_18 rfl (lv_at hl 1 rfl) ?_
    obtain ⟨g6, hF⟩ := zgd_inv hF
    refine z_aldq hx hb hK hP 1 (zk_lt (rfl : zk 1 = 21) (by decide)) (zx_21 (rfl : zk 1 = 21)) rfl g6 dX9_put_19 ?_
    refine lv_astore (lv' := [(4, .ref (ad (2 + (p1 : Int32).toNatClampNeg))), (0, .ref (ad 0)), (1, .int p1), (2, .int p2), (3, .int p3)]) hx hb dX9_put_20 hl (by decide) rfl (fun ls hl => ?_)
    refine lv_aload hx hb dX9_put_22 (lv_at hl 0 rfl) ?_
    refine z_get (ci := 6) (C := RX6) (T := TX6) (N := 4) hx hb hts iX9_put_X6 hown hK hP (zk_lt (zk_21s (rfl : zk 1 = 21) g6) (by decide)) (zx_6 (zk_21s (rfl : zk 1 = 21) g6)) rfl 1 (by decide) kX9_put_f220 rfl (v := .int (σ2 (2 + (p1 : Int32).toNatClampNeg) 1)) rfl dX9_put_24 ?_
    refine lv_if_ne (tgt := 36) hx hb dX9_put_27 (by decide) (fun b7 => ?_) (fun b7 => ?_)
    · have hF := zif_f b7 hF
      refine lv_iload_n hx hb dX9_put_36 rfl (lv_at hl 3 rfl) ?_
      refine lv_aload hx hb dX9_put_37 (lv_at hl 0 rfl) ?_
      refine z_get (ci := 6) (C := RX6) (T := TX6) (N := 4) hx hb hts iX9_put_X6 hown hK hP (zk_lt (zk_21s (rfl : zk 1 = 21) g6) (by decide)) (zx_6 (zk_21s (rfl : zk 1 = 21) g6)) rfl 3 (by decide) kX9_put_f224 rfl (v := .int (σ2 (2 + (p1 : Int32).toNatClampNeg) 3)) rfl dX9_put_39 ?_
      obtain ⟨r9, σ8, hC10, hF⟩ := zbd_inv hF
      refine z_calli (va_runS (As := [.int p2, .int (σ2 (2 + (p1 : Int32).toNatClampNeg) 3)]) (rest := []) ⟨hx, hb, hml, hown, hts⟩ (CX9_isBelow l D cI cS cP ad A n σ2 σ8 r9 p2 (σ2 (2 + (p1 : Int32).toNatClampNeg) 3) hC10) (va_cwS 2 hts gX9_put_X9_isBelow rfl rfl rfl (by decide +kernel) ⟨Nat.le_of_ble_eq_true rfl, Nat.le_of_ble_eq_true rfl⟩) (z_preS hN hK hP hD) rfl rfl hl.1 rfl (lv_room (Nat.le_of_ble_eq_true rfl)) dX9_put_42 ⟨Nat.zero_le _, Nat.zero_le _⟩) hS (fun H locs hP hD hS => ?_)
      refine lv_if_ne (tgt := 54) hx hb dX9_put_45 (by decide) (fun b11 => ?_) (fun b11 => ?_)
      · have hF := zif_f b11 hF
        refine lv_aload hx hb dX9_put_54 (lv_at hl 0 rfl) ?_
        refine z_get (ci := 6) (C := RX6) (T := TX6) (N := 4) hx hb hts iX9_put_X6 hown hK hP (zk_lt (zk_21s (rfl : zk 1 = 21) g6) (by decide)) (zx_6 (zk_21s (rfl : zk 1 = 21) g6)) rfl 0 (by decide) kX9_put_f184 rfl (v := .ref (ad ((2 + (p1 : Int32).toNatClampNeg) + 4))) rfl dX9_put_56 ?_
        refine lv_iload_n hx hb dX9_put_59 rfl (lv_at hl 3 rfl) ?_
        refine lv_aload hx hb dX9_put_60 (lv_at hl 0 rfl) ?_
        refine lv_iload_n hx hb dX9_put_62 rfl (lv_at hl 4 rfl) ?_
        obtain ⟨r13, σ12, hC14, hF⟩ := zbd_inv hF
        refine z_calli (va_runV (As := [.int p3]) (rest := [.int p2, .ref (ad ((2 + (p1 : Int32).toNatClampNeg) + 4))]) ⟨hx, hb, hml, hown, hts⟩ (CX6_cut l D cI cS cP ad A n σ8 σ12 r13 (2 + (p1 : Int32).toNatClampNeg) p3 (zk_21s (rfl : zk 1 = 21) g6) hC14) (cwV 1 hts gX9_put_X6_cut rfl rfl rfl (by decide +kernel) ⟨Nat.le_of_ble_eq_true rfl, Nat.le_of_ble_eq_true rfl⟩) (z_preV hN hK hP hD (zk_lt (zk_21s (rfl : zk 1 = 21) g6) (by decide)) (zx_6 (zk_21s (rfl : zk 1 = 21) g6)) rfl) rfl rfl hl.1 rfl (lv_room (Nat.le_of_ble_eq_true rfl)) dX9_put_63 ⟨Nat.zero_le _, Nat.zero_le _⟩) hS (fun H locs hP hD hS => ?_)
        obtain ⟨g15, hF⟩ := zgd_inv hF
        obtain ⟨σ16, eσ16, hF⟩ := zlet_inv hF
        refine z_iast hx hb hK hP hD hS (zk_lt (zk_6c (zk_21s (rfl : zk 1 = 21) g6)) (by decide)) (fun _ => (zx_160 (zk_6c (zk_21s (rfl : zk 1 = 21) g6)))) rfl g15 dX9_put_66 (fun H locs hP hD hS => ?_)
        have hP : va_P D vwCl (zW (zx cI cS cP ad) 41 ad σ16) H := by rw [eσ16]; exact hP
        have hD : va_D A (zW (zx cI cS cP ad) 41 ad σ16) := by rw [eσ16]; exact hD
        refine lv_iconst (v := (1 : Int32)) hx hb dX9_put_67 (by decide) ?_
        exact z_iret hx hb hr hlocks hN hK hP hD hS hF dX9_put_68
      · have hF := zif_t b11 hF
        refine lv_aload_n hx hb dX9_put_48 rfl (lv_at hl 1 rfl) ?_
        refine lv_iconst (v := (3 : Int32)) hx hb dX9_put_49 (by decide) ?_
        obtain ⟨r18, σ17, hC19, hF⟩ := zbd_inv hF
        refine z_calli (va_runV (As := [.int (3 : Int32)]) (rest := []) ⟨hx, hb, hml, hown, hts⟩ (CX9_failed l D cI cS cP ad A n σ8 σ17 r18 (3 : Int32) hC19) (cwV 1 hts gX9_put_X9_failed rfl rfl rfl (by decide +kernel) ⟨Nat.le_of_ble_eq_true rfl, Nat.le_of_ble_eq_true rfl⟩) (z_preV hN hK hP hD (zk_lt (rfl : zk 0 = 8) (by decide)) (zx_8 (rfl : zk 0 = 8)) rfl) rfl rfl hl.1 rfl (lv_room (Nat.le_of_ble_eq_true rfl)) dX9_put_50 ⟨Nat.zero_le _, Nat.zero_le _⟩) hS (fun H locs hP hD hS => ?_)
        exact z_iret hx hb hr hlocks hN hK hP hD hS hF dX9_put_53
    · have hF := zif_t b7 hF
      refine lv_aload_n hx hb dX9_put_30 rfl (lv_at hl 1 rfl) ?_
      refine lv_iconst (v := (1 : Int32)) hx hb dX9_put_31 (by decide) ?_
      obtain ⟨r21, σ20, hC22, hF⟩ := zbd_inv hF
      refine z_calli (va_runV (As := [.int (1 : Int32)]) (rest := []) ⟨hx, hb, hml, hown, hts⟩ (CX9_failed l D cI cS cP ad A n σ2 σ20 r21 (1 : Int32) hC22) (cwV 1 hts gX9_put_X9_failed rfl rfl rfl (by decide +kernel) ⟨Nat.le_of_ble_eq_true rfl, Nat.le_of_ble_eq_true rfl⟩) (z_preV hN hK hP hD (zk_lt (rfl : zk 0 = 8) (by decide)) (zx_8 (rfl : zk 0 = 8)) rfl) rfl rfl hl.1 rfl (lv_room (Nat.le_of_ble_eq_true rfl)) dX9_put_32 ⟨Nat.zero_le _, Nat.zero_le _⟩) hS (fun H locs hP hD hS => ?_)
      exact z_iret hx hb hr hlocks hN hK hP hD hS hF dX9_put_35
  · have hF := zif_t b5 hF
    refine lv_iconst (v := (-1 : Int32)) hx hb dX9_put_12 (by decide) ?_
    exact z_iret hx hb hr hlocks hN hK hP hD hS hF dX9_put_13
theorem kX9_cell_f69 : Cond.fieldLink RX9 69 "LeastAsked" "lastFault" "I" ∈ wsX9_cell := by decide +kernel
theorem kX9_cell_L208 : Cond.constantLong RX9 208 (-9223372036854775808) ∈ wsX9_cell := by decide +kernel
theorem kX9_cell_f184 : Cond.fieldLink RX9 184 "LeastAsked$Sheet" "cells" "[I" ∈ wsX9_cell := by decide +kernel
theorem kX9_cell_f13 : Cond.fieldLink RX9 13 "LeastAsked" "sheets" "[LLeastAsked$Sheet;" ∈ wsX9_cell := by decide +kernel
theorem kX9_cell_f224 : Cond.fieldLink RX9 224 "LeastAsked$Sheet" "length" "I" ∈ wsX9_cell := by decide +kernel
theorem iX9_cell_X9 : ∀ w ∈ u_ws RX9 TX9 11, w ∈ wsX9_cell := fun _ h => List.mem_cons_of_mem _ (List.mem_append_left _ (List.mem_append_right _ h))
theorem iX9_cell_X6 : ∀ w ∈ u_ws RX6 TX6 4, w ∈ wsX9_cell := fun _ h => List.mem_cons_of_mem _ (List.mem_append_right _ h)
set_option maxHeartbeats 4000000 in
set_option maxRecDepth 100000 in
theorem CX9_cell (l : Launch) (D : va_G) (cI cS cP : ClassId) (ad : Nat → Nat) (A : Nat → Prop) (n : Nat) (σ σ' : zMem) (r0 : Int64) (p1 : Int32) (p2 : Int32) (p3 : Int32) (hF : FX9_cell n σ p1 p2 p3 = some (r0, σ')) : Met l yX9_cell wsX9_cell ({ frames := 2, cells := 0, slots := 0, locals := 41 } : Room) (va_Pc [.ref (ad 0), .int p1, .int p2, .int p3] (zB (zx cI cS cP ad) 41 ad D (zty cI cS cP) A σ)) (va_Ql (fun r u => r = r0 ∧ u = σ') (zB (zx cI cS cP ad) 41 ad D (zty cI cS cP) A) A) 0 0 A := by
  refine Met.ofW (cc := cX9_cell) (maxL := 5) (ret := (some .long)) (by decide) rfl ?_
  intro p e s m args below meth c s₁ B hml hv
  obtain ⟨rfl, hP, hK, hD, hN⟩ := hv
  have hx := B.exec
  have hb := B.bytes
  have hr := B.returns
  have hts := atoms_spec (ws := wsX9_cell) B.pre
  have hown : s.vm.findClass RX9 = some m.cls := findClass_of_methodNamed B.named
  have hlocks := B.notSynchronized
  have hS : va_S A s.heap s.heap [] := va_S.rf
  have hl := lv_entry ([.ref (ad 0), .int p1, .int p2, .int p3]) (n := 5) (Nat.le_of_ble_eq_true rfl)
  rw [lg_entry_eq]
  generalize (lg_sl ([.ref (ad 0), .int p1, .int p2, .int p3]) ++ List.replicate (5 - (lg_sl ([.ref (ad 0), .int p1, .int p2, .int p3])).length) Slot.unset).toArray = ls at hl ⊢
  have hl : lv_has ls 5 [(0, .ref (ad 0)), (1, .int p1), (2, .int p2), (3, .int p3)] := hl
  clear B
  have hB65 : ∀ (σ : zMem) (l1 : Int32) (l2 : Int32) (l3 : Int32) (c4 : Nat), zk c4 = 6 → ∀ (H : Heap) (locs : List Loc) (ls : Array Slot), BX9_cell_65 n σ l1 l2 l3 c4 = some (r0, σ') → va_P D vwCl (zW (zx cI cS cP ad) 41 ad σ) H → va_D A (zW (zx cI cS cP ad) 41 ad σ) → va_S A s.heap H locs → lv_has ls 5 [(0, .ref (ad 0)), (1, .int l1), (2, .int l2), (3, .int l3), (4, .ref (ad c4))] → W p l e (headSpec wsX9_cell ({ frames := 2, cells := 0, slots := 0, locals := 41 } : Room)).room s m ([.ref (ad 0), .int p1, .int p2, .int p3] : List Value).toArray below meth c H locs 0 0 (MQ below (va_Ql (fun r u => r = r0 ∧ u = σ') (zB (zx cI cS cP ad) 41 ad D (zty cI cS cP) A) A) ([.ref (ad 0), .int p1, .int p2, .int p3] : List Value).toArray s 0 0 A) (F0 m 65 ls []) := by
    intro σ l1 l2 l3 c4 hc4 H locs ls hF hP hD hS hl
    unfold BX9_cell_65 at hF
    refine lv_aload_n hx hb dX9_cell_65 rfl (lv_at hl 0 rfl) ?_
    refine z_get (ci := 8) (C := RX9) (T := TX9) (N := 11) hx hb hts iX9_cell_X9 hown hK hP (zk_lt (rfl : zk 0 = 8) (by decide)) (zx_8 (rfl : zk 0 = 8)) rfl 10 (by decide) kX9_cell_f69 rfl (v := .int (σ 0 10)) rfl dX9_cell_66 ?_
    refine lv_if_ne (tgt := 83) hx hb dX9_cell_69 (by decide) (fun b1 => ?_) (fun b1 => ?_)
    · have hF := zif_f b1 hF
      refine lv_ldc2 (v := (-9223372036854775808 : Int64)) hx hb hown (hts _ kX9_cell_L208) dX9_cell_83 ?_
      exact z_lret hx hb hr hlocks hN hK hP hD hS hF dX9_cell_86
    · have hF := zif_t b1 hF
      refine lv_aload hx hb dX9_cell_72 (lv_at hl 4 rfl) ?_
      refine z_get (ci := 6) (C := RX6) (T := TX6) (N := 4) hx hb hts iX9_cell_X6 hown hK hP (zk_lt hc4 (by decide)) (zx_6 hc4) rfl 0 (by decide) kX9_cell_f184 rfl (v := .ref (ad (c4 + 4))) rfl dX9_cell_74 ?_
      refine lv_iload_n hx hb dX9_cell_77 rfl (lv_at hl 2 rfl) ?_
      obtain ⟨g2, hF⟩ := zgd_inv hF
      refine z_iald hx hb hK hP (zk_lt (zk_6c hc4) (by decide)) (zx_160 (zk_6c hc4)) rfl g2 dX9_cell_78 ?_
      refine lv_i2l (v := ((σ (c4 + 4) (l2 : Int32).toNatClampNeg) : Int32).toInt64) hx hb dX9_cell_79 rfl ?_
      refine lv_goto (tgt := 86) hx hb dX9_cell_80 (by decide) ?_
      exact z_lret hx hb hr hlocks hN hK hP hD hS hF dX9_cell_86
  unfold FX9_cell at hF
  refine lv_aload_n hx hb dX9_cell_0 rfl (lv_at hl 0 rfl) ?_
  refine lv_iconst (v := (0 : Int32)) hx hb dX9_cell_1 (by decide) ?_
  obtain ⟨σ3, eσ3, hF⟩ := zlet_inv hF
  refine z_put (ci := 8) (C := RX9) (T := TX9) (N := 11) hx hb hts iX9_cell_X9 tyX9 tyX9_ok nmX9 hown hK hP hD hS (zk_lt (rfl : zk 0 = 8) (by decide)) (zx_8 (rfl : zk 0 = 8)) rfl 10 (by decide) kX9_cell_f69 rfl rfl rfl rfl (Nat.le_of_ble_eq_true rfl) (zx_8 (rfl : zk 0 = 8)) dX9_cell_2 (fun H locs hP hD hS => ?_)
  have hP : va_P D vwCl (zW (zx cI cS cP ad) 41 ad σ3) H := by rw [eσ3]; exact hP
  have hD : va_D A (zW (zx cI cS cP ad) 41 ad σ3) := by rw [eσ3]; exact hD
  refine lv_iload_n hx hb dX9_cell_5 rfl (lv_at hl 1 rfl) ?_
  obtain ⟨r5, σ4, hC6, hF⟩ := zbd_inv hF
  refine z_calli (va_runS (As := [.int p1]) (rest := []) ⟨hx, hb, hml, hown, hts⟩ (CX9_isSheet l D cI cS cP ad A n σ3 σ4 r5 p1 hC6) (va_cwS 1 hts gX9_cell_X9_isSheet rfl rfl rfl (by decide +kernel) ⟨Nat.le_of_ble_eq_true rfl, Nat.le_of_ble_eq_true rfl⟩) (z_preS hN hK hP hD) rfl rfl hl.1 rfl (lv_room (Nat.le_of_ble_eq_true rfl)) dX9_cell_6 ⟨Nat.zero_le _, Nat.zero_le _⟩) hS (fun H locs hP hD hS => ?_)
  refine lv_if_eq (tgt := 19) hx hb dX9_cell_9 (by decide) (fun b7 => ?_) (fun b7 => ?_)
  · have hF := zif_t b7 hF
    refine lv_ldc2 (v := (-9223372036854775808 : Int64)) hx hb hown (hts _ kX9_cell_L208) dX9_cell_19 ?_
    exact z_lret hx hb hr hlocks hN hK hP hD hS hF dX9_cell_22
  · have hF := zif_f b7 hF
    refine lv_iload_n hx hb dX9_cell_12 rfl (lv_at hl 3 rfl) ?_
    obtain ⟨r9, σ8, hC10, hF⟩ := zbd_inv hF
    refine z_calli (va_runS (As := [.int p3]) (rest := []) ⟨hx, hb, hml, hown, hts⟩ (CX9_isLane l D cI cS cP ad A n σ4 σ8 r9 p3 hC10) (va_cwS 1 hts gX9_cell_X9_isLane rfl rfl rfl (by decide +kernel) ⟨Nat.le_of_ble_eq_true rfl, Nat.le_of_ble_eq_true rfl⟩) (z_preS hN hK hP hD) rfl rfl hl.1 rfl (lv_room (Nat.le_of_ble_eq_true rfl)) dX9_cell_13 ⟨Nat.zero_le _, Nat.zero_le _⟩) hS (fun H locs hP hD hS => ?_)
    refine lv_if_ne (tgt := 23) hx hb dX9_cell_16 (by decide) (fun b11 => ?_) (fun b11 => ?_)
    · have hF := zif_f b11 hF
      refine lv_aload_n hx hb dX9_cell_23 rfl (lv_at hl 0 rfl) ?_
      refine z_get (ci := 8) (C := RX9) (T := TX9) (N := 11) hx hb hts iX9_cell_X9 hown hK hP (zk_lt (rfl : zk 0 = 8) (by decide)) (zx_8 (rfl : zk 0 = 8)) rfl 0 (by decide) kX9_cell_f13 rfl (v := .ref (ad 1)) rfl dX9_cell_24 ?_
      refine lv_iload_n hx hb dX9_cell_27 rfl (lv_at hl 1 rfl) ?_
      obtain ⟨g12, hF⟩ := zgd_inv hF
      refine z_aldq hx hb hK hP 1 (zk_lt (rfl : zk 1 = 21) (by decide)) (zx_21 (rfl : zk 1 = 21)) rfl g12 dX9_cell_28 ?_
      refine lv_astore (lv' := [(4, .ref (ad (2 + (p1 : Int32).toNatClampNeg))), (0, .ref (ad 0)), (1, .int p1), (2, .int p2), (3, .int p3)]) hx hb dX9_cell_29 hl (by decide) rfl (fun ls hl => ?_)
      refine lv_aload_n hx hb dX9_cell_31 rfl (lv_at hl 1 rfl) ?_
      refine lv_aload hx hb dX9_cell_32 (lv_at hl 0 rfl) ?_
      refine lv_iload_n hx hb dX9_cell_34 rfl (lv_at hl 4 rfl) ?_
      obtain ⟨r14, σ13, hC15, hF⟩ := zbd_inv hF
      refine z_calli (va_runV (As := [.int p3]) (rest := [.ref (ad 0)]) ⟨hx, hb, hml, hown, hts⟩ (CX6_faultAs l D cI cS cP ad A n σ8 σ13 r14 (2 + (p1 : Int32).toNatClampNeg) p3 (zk_21s (rfl : zk 1 = 21) g12) hC15) (cwV 1 hts gX9_cell_X6_faultAs rfl rfl rfl (by decide +kernel) ⟨Nat.le_of_ble_eq_true rfl, Nat.le_of_ble_eq_true rfl⟩) (z_preV hN hK hP hD (zk_lt (zk_21s (rfl : zk 1 = 21) g12) (by decide)) (zx_6 (zk_21s (rfl : zk 1 = 21) g12)) rfl) rfl rfl hl.1 rfl (lv_room (Nat.le_of_ble_eq_true rfl)) dX9_cell_35 ⟨Nat.zero_le _, Nat.zero_le _⟩) hS (fun H locs hP hD hS => ?_)
      obtain ⟨σ16, eσ16, hF⟩ := zlet_inv hF
      refine z_put (ci := 8) (C := RX9) (T := TX9) (N := 11) hx hb hts iX9_cell_X9 tyX9 tyX9_ok nmX9 hown hK hP hD hS (zk_lt (rfl : zk 0 = 8) (by decide)) (zx_8 (rfl : zk 0 = 8)) rfl 10 (by decide) kX9_cell_f69 rfl rfl rfl rfl (Nat.le_of_ble_eq_true rfl) (zx_8 (rfl : zk 0 = 8)) dX9_cell_38 (fun H locs hP hD hS => ?_)
      have hP : va_P D vwCl (zW (zx cI cS cP ad) 41 ad σ16) H := by rw [eσ16]; exact hP
      have hD : va_D A (zW (zx cI cS cP ad) 41 ad σ16) := by rw [eσ16]; exact hD
      refine lv_aload_n hx hb dX9_cell_41 rfl (lv_at hl 1 rfl) ?_
      refine z_get (ci := 8) (C := RX9) (T := TX9) (N := 11) hx hb hts iX9_cell_X9 hown hK hP (zk_lt (rfl : zk 0 = 8) (by decide)) (zx_8 (rfl : zk 0 = 8)) rfl 10 (by decide) kX9_cell_f69 rfl (v := .int (σ16 0 10)) rfl dX9_cell_42 ?_
      refine lv_if_ne (tgt := 65) hx hb dX9_cell_45 (by decide) (fun b17 => ?_) (fun b17 => ?_)
      · have hF := zif_f b17 hF
        exact hB65 σ16 p1 p2 p3 (2 + (p1 : Int32).toNatClampNeg) (zk_21s (rfl : zk 1 = 21) g12) _ _ _ hF hP hD hS (lv_sub hl [1, 2, 3, 4, 0] rfl)
      · have hF := zif_t b17 hF
        refine lv_iload_n hx hb dX9_cell_48 rfl (lv_at hl 3 rfl) ?_
        refine lv_aload hx hb dX9_cell_49 (lv_at hl 0 rfl) ?_
        refine z_get (ci := 6) (C := RX6) (T := TX6) (N := 4) hx hb hts iX9_cell_X6 hown hK hP (zk_lt (zk_21s (rfl : zk 1 = 21) g12) (by decide)) (zx_6 (zk_21s (rfl : zk 1 = 21) g12)) rfl 3 (by decide) kX9_cell_f224 rfl (v := .int (σ16 (2 + (p1 : Int32).toNatClampNeg) 3)) rfl dX9_cell_51 ?_
        obtain ⟨r19, σ18, hC20, hF⟩ := zbd_inv hF
        refine z_calli (va_runS (As := [.int p2, .int (σ16 (2 + (p1 : Int32).toNatClampNeg) 3)]) (rest := []) ⟨hx, hb, hml, hown, hts⟩ (CX9_isBelow l D cI cS cP ad A n σ16 σ18 r19 p2 (σ16 (2 + (p1 : Int32).toNatClampNeg) 3) hC20) (va_cwS 2 hts gX9_cell_X9_isBelow rfl rfl rfl (by decide +kernel) ⟨Nat.le_of_ble_eq_true rfl, Nat.le_of_ble_eq_true rfl⟩) (z_preS hN hK hP hD) rfl rfl hl.1 rfl (lv_room (Nat.le_of_ble_eq_true rfl)) dX9_cell_54 ⟨Nat.zero_le _, Nat.zero_le _⟩) hS (fun H locs hP hD hS => ?_)
        refine lv_if_ne (tgt := 65) hx hb dX9_cell_57 (by decide) (fun b21 => ?_) (fun b21 => ?_)
        · have hF := zif_f b21 hF
          exact hB65 σ18 p1 p2 p3 (2 + (p1 : Int32).toNatClampNeg) (zk_21s (rfl : zk 1 = 21) g12) _ _ _ hF hP hD hS (lv_sub hl [1, 2, 3, 4, 0] rfl)
        · have hF := zif_t b21 hF
          refine lv_aload_n hx hb dX9_cell_60 rfl (lv_at hl 1 rfl) ?_
          refine lv_iconst (v := (3 : Int32)) hx hb dX9_cell_61 (by decide) ?_
          obtain ⟨σ22, eσ22, hF⟩ := zlet_inv hF
          refine z_put (ci := 8) (C := RX9) (T := TX9) (N := 11) hx hb hts iX9_cell_X9 tyX9 tyX9_ok nmX9 hown hK hP hD hS (zk_lt (rfl : zk 0 = 8) (by decide)) (zx_8 (rfl : zk 0 = 8)) rfl 10 (by decide) kX9_cell_f69 rfl rfl rfl rfl (Nat.le_of_ble_eq_true rfl) (zx_8 (rfl : zk 0 = 8)) dX9_cell_62 (fun H locs hP hD hS => ?_)
          have hP : va_P D vwCl (zW (zx cI cS cP ad) 41 ad σ22) H := by rw [eσ22]; exact hP
          have hD : va_D A (zW (zx cI cS cP ad) 41 ad σ22) := by rw [eσ22]; exact hD
          exact hB65 σ22 p1 p2 p3 (2 + (p1 : Int32).toNatClampNeg) (zk_21s (rfl : zk 1 = 21) g12) _ _ _ hF hP hD hS (lv_sub hl [1, 2, 3, 4, 0] rfl)
    · have hF := zif_t b11 hF
      refine lv_ldc2 (v := (-9223372036854775808 : Int64)) hx hb hown (hts _ kX9_cell_L208) dX9_cell_19 ?_
      exact z_lret hx hb hr hlocks hN hK hP hD hS hF dX9_cell_22
theorem kX9_copy_f69 : Cond.fieldLink RX9 69 "LeastAsked" "lastFault" "I" ∈ wsX9_copy := by decide +kernel
theorem kX9_copy_f13 : Cond.fieldLink RX9 13 "LeastAsked" "sheets" "[LLeastAsked$Sheet;" ∈ wsX9_copy := by decide +kernel
theorem kX9_copy_f220 : Cond.fieldLink RX9 220 "LeastAsked$Sheet" "filled" "Z" ∈ wsX9_copy := by decide +kernel
theorem kX9_copy_f230 : Cond.fieldLink RX9 230 "LeastAsked$Sheet" "lane" "I" ∈ wsX9_copy := by decide +kernel
theorem kX9_copy_f184 : Cond.fieldLink RX9 184 "LeastAsked$Sheet" "cells" "[I" ∈ wsX9_copy := by decide +kernel
theorem kX9_copy_m233 : Cond.methodLink RX9 233 arraycopyName ∈ wsX9_copy := by decide +kernel
theorem kX9_copy_nat : Cond.native arraycopyName ∈ wsX9_copy := by decide +kernel
theorem kX9_copy_stat : Cond.static arraycopyName ∈ wsX9_copy := by decide +kernel
theorem kX9_copy_iS : Cond.initialized "java/lang/System" ∈ wsX9_copy := by decide +kernel
theorem iX9_copy_X9 : ∀ w ∈ u_ws RX9 TX9 11, w ∈ wsX9_copy := fun _ h => List.mem_cons_of_mem _ (List.mem_append_left _ (List.mem_append_right _ h))
theorem iX9_copy_X6 : ∀ w ∈ u_ws RX6 TX6 4, w ∈ wsX9_copy := fun _ h => List.mem_cons_of_mem _ (List.mem_append_right _ h)
set_option maxHeartbeats 4000000 in
set_option maxRecDepth 100000 in
theorem CX9_copy (l : Launch) (D : va_G) (cI cS cP : ClassId) (ad : Nat → Nat) (A : Nat → Prop) (n : Nat) (σ σ' : zMem) (r0 : Int32) (p1 : Int32) (p2 : Int32) (p3 : Int32) (p4 : Int32) (p5 : Int32) (hF : FX9_copy n σ p1 p2 p3 p4 p5 = some (r0, σ')) : Met l yX9_copy wsX9_copy ({ frames := 2, cells := 0, slots := 0, locals := 41 } : Room) (va_Pc [.ref (ad 0), .int p1, .int p2, .int p3, .int p4, .int p5] (zB (zx cI cS cP ad) 41 ad D (zty cI cS cP) A σ)) (va_Qi (fun r u => r = r0 ∧ u = σ') (zB (zx cI cS cP ad) 41 ad D (zty cI cS cP) A) A) 0 0 A := by
  refine Met.ofW (cc := cX9_copy) (maxL := 8) (ret := (some .int)) (by decide) rfl ?_
  intro p e s m args below meth c s₁ B hml hv
  obtain ⟨rfl, hP, hK, hD, hN⟩ := hv
  have hx := B.exec
  have hb := B.bytes
  have hr := B.returns
  have hts := atoms_spec (ws := wsX9_copy) B.pre
  have hown : s.vm.findClass RX9 = some m.cls := findClass_of_methodNamed B.named
  have hlocks := B.notSynchronized
  have hS : va_S A s.heap s.heap [] := va_S.rf
  have hl := lv_entry ([.ref (ad 0), .int p1, .int p2, .int p3, .int p4, .int p5]) (n := 8) (Nat.le_of_ble_eq_true rfl)
  rw [lg_entry_eq]
  generalize (lg_sl ([.ref (ad 0), .int p1, .int p2, .int p3, .int p4, .int p5]) ++ List.replicate (8 - (lg_sl ([.ref (ad 0), .int p1, .int p2, .int p3, .int p4, .int p5])).length) Slot.unset).toArray = ls at hl ⊢
  have hl : lv_has ls 8 [(0, .ref (ad 0)), (1, .int p1), (2, .int p2), (3, .int p3), (4, .int p4), (5, .int p5)] := hl
  clear B
  have hB101 : ∀ (σ : zMem) (l1 : Int32) (l2 : Int32) (l3 : Int32) (l4 : Int32) (l5 : Int32) (c6 : Nat) (c7 : Nat), zk c6 = 6 → zk c7 = 6 → ∀ (H : Heap) (locs : List Loc) (ls : Array Slot), BX9_copy_101 n σ l1 l2 l3 l4 l5 c6 c7 = some (r0, σ') → va_P D vwCl (zW (zx cI cS cP ad) 41 ad σ) H → va_D A (zW (zx cI cS cP ad) 41 ad σ) → va_S A s.heap H locs → lv_has ls 8 [(0, .ref (ad 0)), (1, .int l1), (2, .int l2), (3, .int l3), (4, .int l4), (5, .int l5), (6, .ref (ad c6)), (7, .ref (ad c7))] → W p l e (headSpec wsX9_copy ({ frames := 2, cells := 0, slots := 0, locals := 41 } : Room)).room s m ([.ref (ad 0), .int p1, .int p2, .int p3, .int p4, .int p5] : List Value).toArray below meth c H locs 0 0 (MQ below (va_Qi (fun r u => r = r0 ∧ u = σ') (zB (zx cI cS cP ad) 41 ad D (zty cI cS cP) A) A) ([.ref (ad 0), .int p1, .int p2, .int p3, .int p4, .int p5] : List Value).toArray s 0 0 A) (F0 m 101 ls []) := by
    intro σ l1 l2 l3 l4 l5 c6 c7 hc6 hc7 H locs ls hF hP hD hS hl
    unfold BX9_copy_101 at hF
    refine lv_aload_n hx hb dX9_copy_101 rfl (lv_at hl 0 rfl) ?_
    refine lv_iconst (v := (3 : Int32)) hx hb dX9_copy_102 (by decide) ?_
    obtain ⟨r2, σ1, hC3, hF⟩ := zbd_inv hF
    refine z_calli (va_runV (As := [.int (3 : Int32)]) (rest := []) ⟨hx, hb, hml, hown, hts⟩ (CX9_failed l D cI cS cP ad A n σ σ1 r2 (3 : Int32) hC3) (cwV 1 hts gX9_copy_X9_failed rfl rfl rfl (by decide +kernel) ⟨Nat.le_of_ble_eq_true rfl, Nat.le_of_ble_eq_true rfl⟩) (z_preV hN hK hP hD (zk_lt (rfl : zk 0 = 8) (by decide)) (zx_8 (rfl : zk 0 = 8)) rfl) rfl rfl hl.1 rfl (lv_room (Nat.le_of_ble_eq_true rfl)) dX9_copy_103 ⟨Nat.zero_le _, Nat.zero_le _⟩) hS (fun H locs hP hD hS => ?_)
    exact z_iret hx hb hr hlocks hN hK hP hD hS hF dX9_copy_106
  have hB53 : ∀ (σ : zMem) (l1 : Int32) (l2 : Int32) (l3 : Int32) (l4 : Int32) (l5 : Int32) (c6 : Nat) (c7 : Nat), zk c6 = 6 → zk c7 = 6 → ∀ (H : Heap) (locs : List Loc) (ls : Array Slot), BX9_copy_53 n σ l1 l2 l3 l4 l5 c6 c7 = some (r0, σ') → va_P D vwCl (zW (zx cI cS cP ad) 41 ad σ) H → va_D A (zW (zx cI cS cP ad) 41 ad σ) → va_S A s.heap H locs → lv_has ls 8 [(0, .ref (ad 0)), (1, .int l1), (2, .int l2), (3, .int l3), (4, .int l4), (5, .int l5), (6, .ref (ad c6)), (7, .ref (ad c7))] → W p l e (headSpec wsX9_copy ({ frames := 2, cells := 0, slots := 0, locals := 41 } : Room)).room s m ([.ref (ad 0), .int p1, .int p2, .int p3, .int p4, .int p5] : List Value).toArray below meth c H locs 0 0 (MQ below (va_Qi (fun r u => r = r0 ∧ u = σ') (zB (zx cI cS cP ad) 41 ad D (zty cI cS cP) A) A) ([.ref (ad 0), .int p1, .int p2, .int p3, .int p4, .int p5] : List Value).toArray s 0 0 A) (F0 m 53 ls []) := by
    intro σ l1 l2 l3 l4 l5 c6 c7 hc6 hc7 H locs ls hF hP hD hS hl
    unfold BX9_copy_53 at hF
    refine lv_aload_n hx hb dX9_copy_53 rfl (lv_at hl 0 rfl) ?_
    refine lv_iconst (v := (1 : Int32)) hx hb dX9_copy_54 (by decide) ?_
    obtain ⟨r5, σ4, hC6, hF⟩ := zbd_inv hF
    refine z_calli (va_runV (As := [.int (1 : Int32)]) (rest := []) ⟨hx, hb, hml, hown, hts⟩ (CX9_failed l D cI cS cP ad A n σ σ4 r5 (1 : Int32) hC6) (cwV 1 hts gX9_copy_X9_failed rfl rfl rfl (by decide +kernel) ⟨Nat.le_of_ble_eq_true rfl, Nat.le_of_ble_eq_true rfl⟩) (z_preV hN hK hP hD (zk_lt (rfl : zk 0 = 8) (by decide)) (zx_8 (rfl : zk 0 = 8)) rfl) rfl rfl hl.1 rfl (lv_room (Nat.le_of_ble_eq_true rfl)) dX9_copy_55 ⟨Nat.zero_le _, Nat.zero_le _⟩) hS (fun H locs hP hD hS => ?_)
    exact z_iret hx hb hr hlocks hN hK hP hD hS hF dX9_copy_58
  unfold FX9_copy at hF
  refine lv_aload_n hx hb dX9_copy_0 rfl (lv_at hl 0 rfl) ?_
  refine lv_iconst (v := (0 : Int32)) hx hb dX9_copy_1 (by decide) ?_
  obtain ⟨σ7, eσ7, hF⟩ := zlet_inv hF
  refine z_put (ci := 8) (C := RX9) (T := TX9) (N := 11) hx hb hts iX9_copy_X9 tyX9 tyX9_ok nmX9 hown hK hP hD hS (zk_lt (rfl : zk 0 = 8) (by decide)) (zx_8 (rfl : zk 0 = 8)) rfl 10 (by decide) kX9_copy_f69 rfl rfl rfl rfl (Nat.le_of_ble_eq_true rfl) (zx_8 (rfl : zk 0 = 8)) dX9_copy_2 (fun H locs hP hD hS => ?_)
  have hP : va_P D vwCl (zW (zx cI cS cP ad) 41 ad σ7) H := by rw [eσ7]; exact hP
  have hD : va_D A (zW (zx cI cS cP ad) 41 ad σ7) := by rw [eσ7]; exact hD
  refine lv_iload_n hx hb dX9_copy_5 rfl (lv_at hl 1 rfl) ?_
  obtain ⟨r9, σ8, hC10, hF⟩ := zbd_inv hF
  refine z_calli (va_runS (As := [.int p1]) (rest := []) ⟨hx, hb, hml, hown, hts⟩ (CX9_isSheet l D cI cS cP ad A n σ7 σ8 r9 p1 hC10) (va_cwS 1 hts gX9_copy_X9_isSheet rfl rfl rfl (by decide +kernel) ⟨Nat.le_of_ble_eq_true rfl, Nat.le_of_ble_eq_true rfl⟩) (z_preS hN hK hP hD) rfl rfl hl.1 rfl (lv_room (Nat.le_of_ble_eq_true rfl)) dX9_copy_6 ⟨Nat.zero_le _, Nat.zero_le _⟩) hS (fun H locs hP hD hS => ?_)
  refine lv_if_eq (tgt := 19) hx hb dX9_copy_9 (by decide) (fun b11 => ?_) (fun b11 => ?_)
  · have hF := zif_t b11 hF
    refine lv_iconst (v := (-1 : Int32)) hx hb dX9_copy_19 (by decide) ?_
    exact z_iret hx hb hr hlocks hN hK hP hD hS hF dX9_copy_20
  · have hF := zif_f b11 hF
    refine lv_iload_n hx hb dX9_copy_12 rfl (lv_at hl 3 rfl) ?_
    obtain ⟨r13, σ12, hC14, hF⟩ := zbd_inv hF
    refine z_calli (va_runS (As := [.int p3]) (rest := []) ⟨hx, hb, hml, hown, hts⟩ (CX9_isSheet l D cI cS cP ad A n σ8 σ12 r13 p3 hC14) (va_cwS 1 hts gX9_copy_X9_isSheet rfl rfl rfl (by decide +kernel) ⟨Nat.le_of_ble_eq_true rfl, Nat.le_of_ble_eq_true rfl⟩) (z_preS hN hK hP hD) rfl rfl hl.1 rfl (lv_room (Nat.le_of_ble_eq_true rfl)) dX9_copy_13 ⟨Nat.zero_le _, Nat.zero_le _⟩) hS (fun H locs hP hD hS => ?_)
    refine lv_if_ne (tgt := 21) hx hb dX9_copy_16 (by decide) (fun b15 => ?_) (fun b15 => ?_)
    · have hF := zif_f b15 hF
      refine lv_aload_n hx hb dX9_copy_21 rfl (lv_at hl 0 rfl) ?_
      refine z_get (ci := 8) (C := RX9) (T := TX9) (N := 11) hx hb hts iX9_copy_X9 hown hK hP (zk_lt (rfl : zk 0 = 8) (by decide)) (zx_8 (rfl : zk 0 = 8)) rfl 0 (by decide) kX9_copy_f13 rfl (v := .ref (ad 1)) rfl dX9_copy_22 ?_
      refine lv_iload_n hx hb dX9_copy_25 rfl (lv_at hl 1 rfl) ?_
      obtain ⟨g16, hF⟩ := zgd_inv hF
      refine z_aldq hx hb hK hP 1 (zk_lt (rfl : zk 1 = 21) (by decide)) (zx_21 (rfl : zk 1 = 21)) rfl g16 dX9_copy_26 ?_
      refine lv_astore (lv' := [(6, .ref (ad (2 + (p1 : Int32).toNatClampNeg))), (0, .ref (ad 0)), (1, .int p1), (2, .int p2), (3, .int p3), (4, .int p4), (5, .int p5)]) hx hb dX9_copy_27 hl (by decide) rfl (fun ls hl => ?_)
      refine lv_aload_n hx hb dX9_copy_29 rfl (lv_at hl 1 rfl) ?_
      refine z_get (ci := 8) (C := RX9) (T := TX9) (N := 11) hx hb hts iX9_copy_X9 hown hK hP (zk_lt (rfl : zk 0 = 8) (by decide)) (zx_8 (rfl : zk 0 = 8)) rfl 0 (by decide) kX9_copy_f13 rfl (v := .ref (ad 1)) rfl dX9_copy_30 ?_
      refine lv_iload_n hx hb dX9_copy_33 rfl (lv_at hl 4 rfl) ?_
      obtain ⟨g17, hF⟩ := zgd_inv hF
      refine z_aldq hx hb hK hP 1 (zk_lt (rfl : zk 1 = 21) (by decide)) (zx_21 (rfl : zk 1 = 21)) rfl g17 dX9_copy_34 ?_
      refine lv_astore (lv' := [(7, .ref (ad (2 + (p3 : Int32).toNatClampNeg))), (6, .ref (ad (2 + (p1 : Int32).toNatClampNeg))), (0, .ref (ad 0)), (1, .int p1), (2, .int p2), (3, .int p3), (4, .int p4), (5, .int p5)]) hx hb dX9_copy_35 hl (by decide) rfl (fun ls hl => ?_)
      refine lv_aload hx hb dX9_copy_37 (lv_at hl 1 rfl) ?_
      refine z_get (ci := 6) (C := RX6) (T := TX6) (N := 4) hx hb hts iX9_copy_X6 hown hK hP (zk_lt (zk_21s (rfl : zk 1 = 21) g16) (by decide)) (zx_6 (zk_21s (rfl : zk 1 = 21) g16)) rfl 1 (by decide) kX9_copy_f220 rfl (v := .int (σ12 (2 + (p1 : Int32).toNatClampNeg) 1)) rfl dX9_copy_39 ?_
      refine lv_if_eq (tgt := 53) hx hb dX9_copy_42 (by decide) (fun b18 => ?_) (fun b18 => ?_)
      · have hF := zif_t b18 hF
        exact hB53 σ12 p1 p2 p3 p4 p5 (2 + (p1 : Int32).toNatClampNeg) (2 + (p3 : Int32).toNatClampNeg) (zk_21s (rfl : zk 1 = 21) g16) (zk_21s (rfl : zk 1 = 21) g17) _ _ _ hF hP hD hS (lv_sub hl [2, 3, 4, 5, 6, 7, 1, 0] rfl)
      · have hF := zif_f b18 hF
        refine lv_aload hx hb dX9_copy_45 (lv_at hl 0 rfl) ?_
        refine z_get (ci := 6) (C := RX6) (T := TX6) (N := 4) hx hb hts iX9_copy_X6 hown hK hP (zk_lt (zk_21s (rfl : zk 1 = 21) g17) (by decide)) (zx_6 (zk_21s (rfl : zk 1 = 21) g17)) rfl 1 (by decide) kX9_copy_f220 rfl (v := .int (σ12 (2 + (p3 : Int32).toNatClampNeg) 1)) rfl dX9_copy_47 ?_
        refine lv_if_ne (tgt := 59) hx hb dX9_copy_50 (by decide) (fun b19 => ?_) (fun b19 => ?_)
        · have hF := zif_f b19 hF
          refine lv_aload hx hb dX9_copy_59 (lv_at hl 1 rfl) ?_
          refine z_get (ci := 6) (C := RX6) (T := TX6) (N := 4) hx hb hts iX9_copy_X6 hown hK hP (zk_lt (zk_21s (rfl : zk 1 = 21) g16) (by decide)) (zx_6 (zk_21s (rfl : zk 1 = 21) g16)) rfl 2 (by decide) kX9_copy_f230 rfl (v := .int (σ12 (2 + (p1 : Int32).toNatClampNeg) 2)) rfl dX9_copy_61 ?_
          refine lv_aload hx hb dX9_copy_64 (lv_at hl 0 rfl) ?_
          refine z_get (ci := 6) (C := RX6) (T := TX6) (N := 4) hx hb hts iX9_copy_X6 hown hK hP (zk_lt (zk_21s (rfl : zk 1 = 21) g17) (by decide)) (zx_6 (zk_21s (rfl : zk 1 = 21) g17)) rfl 2 (by decide) kX9_copy_f230 rfl (v := .int (σ12 (2 + (p3 : Int32).toNatClampNeg) 2)) rfl dX9_copy_66 ?_
          refine lv_icmp_eq (tgt := 78) hx hb dX9_copy_69 (by decide) (fun b20 => ?_) (fun b20 => ?_)
          · have hF := zif_t b20 hF
            refine lv_aload hx hb dX9_copy_78 (lv_at hl 1 rfl) ?_
            refine lv_iload_n hx hb dX9_copy_80 rfl (lv_at hl 4 rfl) ?_
            refine lv_iload hx hb dX9_copy_81 (lv_at hl 7 rfl) ?_
            obtain ⟨r22, σ21, hC23, hF⟩ := zbd_inv hF
            refine z_calli (va_runV (As := [.int p2, .int p5]) (rest := []) ⟨hx, hb, hml, hown, hts⟩ (CX6_holds l D cI cS cP ad A n σ12 σ21 r22 (2 + (p1 : Int32).toNatClampNeg) p2 p5 (zk_21s (rfl : zk 1 = 21) g16) hC23) (cwV 2 hts gX9_copy_X6_holds rfl rfl rfl (by decide +kernel) ⟨Nat.le_of_ble_eq_true rfl, Nat.le_of_ble_eq_true rfl⟩) (z_preV hN hK hP hD (zk_lt (zk_21s (rfl : zk 1 = 21) g16) (by decide)) (zx_6 (zk_21s (rfl : zk 1 = 21) g16)) rfl) rfl rfl hl.1 rfl (lv_room (Nat.le_of_ble_eq_true rfl)) dX9_copy_83 ⟨Nat.zero_le _, Nat.zero_le _⟩) hS (fun H locs hP hD hS => ?_)
            refine lv_if_eq (tgt := 101) hx hb dX9_copy_86 (by decide) (fun b24 => ?_) (fun b24 => ?_)
            · have hF := zif_t b24 hF
              exact hB101 σ21 p1 p2 p3 p4 p5 (2 + (p1 : Int32).toNatClampNeg) (2 + (p3 : Int32).toNatClampNeg) (zk_21s (rfl : zk 1 = 21) g16) (zk_21s (rfl : zk 1 = 21) g17) _ _ _ hF hP hD hS (lv_sub hl [2, 3, 4, 5, 6, 7, 1, 0] rfl)
            · have hF := zif_f b24 hF
              refine lv_aload hx hb dX9_copy_89 (lv_at hl 0 rfl) ?_
              refine lv_iload hx hb dX9_copy_91 (lv_at hl 6 rfl) ?_
              refine lv_iload hx hb dX9_copy_93 (lv_at hl 7 rfl) ?_
              obtain ⟨r26, σ25, hC27, hF⟩ := zbd_inv hF
              refine z_calli (va_runV (As := [.int p4, .int p5]) (rest := []) ⟨hx, hb, hml, hown, hts⟩ (CX6_holds l D cI cS cP ad A n σ21 σ25 r26 (2 + (p3 : Int32).toNatClampNeg) p4 p5 (zk_21s (rfl : zk 1 = 21) g17) hC27) (cwV 2 hts gX9_copy_X6_holds rfl rfl rfl (by decide +kernel) ⟨Nat.le_of_ble_eq_true rfl, Nat.le_of_ble_eq_true rfl⟩) (z_preV hN hK hP hD (zk_lt (zk_21s (rfl : zk 1 = 21) g17) (by decide)) (zx_6 (zk_21s (rfl : zk 1 = 21) g17)) rfl) rfl rfl hl.1 rfl (lv_room (Nat.le_of_ble_eq_true rfl)) dX9_copy_95 ⟨Nat.zero_le _, Nat.zero_le _⟩) hS (fun H locs hP hD hS => ?_)
              refine lv_if_ne (tgt := 107) hx hb dX9_copy_98 (by decide) (fun b28 => ?_) (fun b28 => ?_)
              · have hF := zif_f b28 hF
                refine lv_aload hx hb dX9_copy_107 (lv_at hl 1 rfl) ?_
                refine z_get (ci := 6) (C := RX6) (T := TX6) (N := 4) hx hb hts iX9_copy_X6 hown hK hP (zk_lt (zk_21s (rfl : zk 1 = 21) g16) (by decide)) (zx_6 (zk_21s (rfl : zk 1 = 21) g16)) rfl 0 (by decide) kX9_copy_f184 rfl (v := .ref (ad ((2 + (p1 : Int32).toNatClampNeg) + 4))) rfl dX9_copy_109 ?_
                refine lv_iload_n hx hb dX9_copy_112 rfl (lv_at hl 4 rfl) ?_
                refine lv_aload hx hb dX9_copy_113 (lv_at hl 0 rfl) ?_
                refine z_get (ci := 6) (C := RX6) (T := TX6) (N := 4) hx hb hts iX9_copy_X6 hown hK hP (zk_lt (zk_21s (rfl : zk 1 = 21) g17) (by decide)) (zx_6 (zk_21s (rfl : zk 1 = 21) g17)) rfl 0 (by decide) kX9_copy_f184 rfl (v := .ref (ad ((2 + (p3 : Int32).toNatClampNeg) + 4))) rfl dX9_copy_115 ?_
                refine lv_iload hx hb dX9_copy_118 (lv_at hl 6 rfl) ?_
                refine lv_iload hx hb dX9_copy_120 (lv_at hl 7 rfl) ?_
                obtain ⟨g29, hF⟩ := zgd_inv hF
                obtain ⟨σ30, eσ30, hF⟩ := zlet_inv hF
                refine z_copy hx hb (hml.trans hl.1.symm) hown (hts _ kX9_copy_m233) (hts _ kX9_copy_nat) (hts _ kX9_copy_stat) (hts _ kX9_copy_iS) hK hP hD hS (zk_lt (zk_6c (zk_21s (rfl : zk 1 = 21) g16)) (by decide)) (zx_160 (zk_6c (zk_21s (rfl : zk 1 = 21) g16))) (zk_lt (zk_6c (zk_21s (rfl : zk 1 = 21) g17)) (by decide)) (fun _ => (zx_160 (zk_6c (zk_21s (rfl : zk 1 = 21) g17)))) rfl g29 (Nat.le_of_ble_eq_true rfl) (Nat.le_of_ble_eq_true rfl) dX9_copy_122 (fun H locs hP hD hS => ?_)
                have hP : va_P D vwCl (zW (zx cI cS cP ad) 41 ad σ30) H := by rw [eσ30]; exact hP
                have hD : va_D A (zW (zx cI cS cP ad) 41 ad σ30) := by rw [eσ30]; exact hD
                refine lv_iload hx hb dX9_copy_125 (lv_at hl 7 rfl) ?_
                exact z_iret hx hb hr hlocks hN hK hP hD hS hF dX9_copy_127
              · have hF := zif_t b28 hF
                exact hB101 σ25 p1 p2 p3 p4 p5 (2 + (p1 : Int32).toNatClampNeg) (2 + (p3 : Int32).toNatClampNeg) (zk_21s (rfl : zk 1 = 21) g16) (zk_21s (rfl : zk 1 = 21) g17) _ _ _ hF hP hD hS (lv_sub hl [2, 3, 4, 5, 6, 7, 1, 0] rfl)
          · have hF := zif_f b20 hF
            refine lv_aload_n hx hb dX9_copy_72 rfl (lv_at hl 2 rfl) ?_
            refine lv_iconst (v := (2 : Int32)) hx hb dX9_copy_73 (by decide) ?_
            obtain ⟨r32, σ31, hC33, hF⟩ := zbd_inv hF
            refine z_calli (va_runV (As := [.int (2 : Int32)]) (rest := []) ⟨hx, hb, hml, hown, hts⟩ (CX9_failed l D cI cS cP ad A n σ12 σ31 r32 (2 : Int32) hC33) (cwV 1 hts gX9_copy_X9_failed rfl rfl rfl (by decide +kernel) ⟨Nat.le_of_ble_eq_true rfl, Nat.le_of_ble_eq_true rfl⟩) (z_preV hN hK hP hD (zk_lt (rfl : zk 0 = 8) (by decide)) (zx_8 (rfl : zk 0 = 8)) rfl) rfl rfl hl.1 rfl (lv_room (Nat.le_of_ble_eq_true rfl)) dX9_copy_74 ⟨Nat.zero_le _, Nat.zero_le _⟩) hS (fun H locs hP hD hS => ?_)
            exact z_iret hx hb hr hlocks hN hK hP hD hS hF dX9_copy_77
        · have hF := zif_t b19 hF
          exact hB53 σ12 p1 p2 p3 p4 p5 (2 + (p1 : Int32).toNatClampNeg) (2 + (p3 : Int32).toNatClampNeg) (zk_21s (rfl : zk 1 = 21) g16) (zk_21s (rfl : zk 1 = 21) g17) _ _ _ hF hP hD hS (lv_sub hl [2, 3, 4, 5, 6, 7, 1, 0] rfl)
    · have hF := zif_t b15 hF
      refine lv_iconst (v := (-1 : Int32)) hx hb dX9_copy_19 (by decide) ?_
      exact z_iret hx hb hr hlocks hN hK hP hD hS hF dX9_copy_20
