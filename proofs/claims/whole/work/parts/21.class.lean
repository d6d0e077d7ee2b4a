/-! ===== contracts: X3_mostWith, X3_nextPlace, X3_make, X3_answer, X4_becomeLike, X4_suppose, X4_hasMatter, X4_timesAhead, X4_placeOf, X4_atPlace, X4_questionsAheadOf, X4_feintsTillKnown, X4_questionsTillEven ===== -/
theorem kX3_mostWith_f15 : Cond.fieldLink RX3 15 "LeastAsked$Planner" "whoIsAsked" "[I" ∈ wsX3_mostWith := by decide +kernel
theorem kX3_mostWith_f9 : Cond.fieldLink RX3 9 "LeastAsked$Planner" "matters" "[I" ∈ wsX3_mostWith := by decide +kernel
theorem kX3_mostWith_f21 : Cond.fieldLink RX3 21 "LeastAsked$Planner" "mostAfter" "[I" ∈ wsX3_mostWith := by decide +kernel
theorem iX3_mostWith_X3 : ∀ w ∈ u_ws RX3 TX3 5, w ∈ wsX3_mostWith := fun _ h => List.mem_cons_of_mem _ (List.mem_append_left _ (List.mem_append_left _ (List.mem_append_right _ h)))
set_option maxHeartbeats 4000000 in
set_option maxRecDepth 100000 in
theorem CX3_mostWith (l : Launch) (D : va_G) (cI cS cP : ClassId) (ad : Nat → Nat) (A : Nat → Prop) (n : Nat) (σ σ' : zMem) (r0 : Int32) (o : Nat) (q3 : Nat) (p1 : Int32) (p2 : Int32) (ho : zk o = 3) (hq3 : zk q3 = 4) (hF : FX3_mostWith n o q3 σ p1 p2 = some (r0, σ')) : Met l yX3_mostWith wsX3_mostWith ({ frames := 2, cells := 0, slots := 0, locals := 44 } : Room) (va_Pc [.ref (ad o), .int p1, .int p2, .ref (ad q3)] (zB (zx cI cS cP ad) 41 ad D (zty cI cS cP) A σ)) (va_Qi (fun r u => r = r0 ∧ u = σ') (zB (zx cI cS cP ad) 41 ad D (zty cI cS cP) A) A) 0 0 A := by
  refine Met.ofW (cc := cX3_mostWith) (maxL := 5) (ret := (some .int)) (by decide) rfl ?_
  intro p e s m args below meth c s₁ B hml hv
  obtain ⟨rfl, hP, hK, hD, hN⟩ := hv
  have hx := B.exec
  have hb := B.bytes
  have hr := B.returns
  have hts := atoms_spec (ws := wsX3_mostWith) B.pre
  have hown : s.vm.findClass RX3 = some m.cls := findClass_of_methodNamed B.named
  have hlocks := B.notSynchronized
  have hS : va_S A s.heap s.heap [] := va_S.rf
  have hl := lv_entry ([.ref (ad o), .int p1, .int p2, .ref (ad q3)]) (n := 5) (Nat.le_of_ble_eq_true rfl)
  rw [lg_entry_eq]
  generalize (lg_sl ([.ref (ad o), .int p1, .int p2, .ref (ad q3)]) ++ List.replicate (5 - (lg_sl ([.ref (ad o), .int p1, .int p2, .ref (ad q3)])).length) Slot.unset).toArray = ls at hl ⊢
  have hl : lv_has ls 5 [(0, .ref (ad o)), (1, .int p1), (2, .int p2), (3, .ref (ad q3))] := hl
  clear B
  unfold FX3_mostWith at hF
  refine lv_iload_n hx hb dX3_mostWith_0 rfl (lv_at hl 1 rfl) ?_
  obtain ⟨r2, σ1, hC3, hF⟩ := zbd_inv hF
  refine z_calli (va_runS (As := [.int p1]) (rest := []) ⟨hx, hb, hml, hown, hts⟩ (CJ6_bitCount_0f7a4 l D cI cS cP ad A n σ σ1 r2 p1 hC3) (va_cwS 1 hts gX3_mostWith_J6_bitCount_0f7a4 rfl rfl rfl (by decide +kernel) ⟨Nat.le_of_ble_eq_true rfl, Nat.le_of_ble_eq_true rfl⟩) (z_preS hN hK hP hD) rfl rfl hl.1 rfl (lv_room (Nat.le_of_ble_eq_true rfl)) dX3_mostWith_1 ⟨Nat.zero_le _, Nat.zero_le _⟩) hS (fun H locs hP hD hS => ?_)
  refine lv_istore (lv' := [(4, .int r2), (0, .ref (ad o)), (1, .int p1), (2, .int p2), (3, .ref (ad q3))]) hx hb dX3_mostWith_4 hl (by decide) rfl (fun ls hl => ?_)
  refine lv_aload_n hx hb dX3_mostWith_6 rfl (lv_at hl 4 rfl) ?_
  refine lv_aload_n hx hb dX3_mostWith_7 rfl (lv_at hl 1 rfl) ?_
  refine z_get (ci := 3) (C := RX3) (T := TX3) (N := 5) hx hb hts iX3_mostWith_X3 hown hK hP (zk_lt ho (by decide)) (zx_3 ho) rfl 1 (by decide) kX3_mostWith_f15 rfl (v := .ref (ad (o + 2))) rfl dX3_mostWith_8 ?_
  refine lv_iload hx hb dX3_mostWith_11 (lv_at hl 0 rfl) ?_
  obtain ⟨g4, hF⟩ := zgd_inv hF
  refine z_iald hx hb hK hP (zk_lt (zk_3b ho) (by decide)) (zx_107 (zk_3b ho)) rfl g4 dX3_mostWith_13 ?_
  refine lv_aload_n hx hb dX3_mostWith_14 rfl (lv_at hl 1 rfl) ?_
  refine z_get (ci := 3) (C := RX3) (T := TX3) (N := 5) hx hb hts iX3_mostWith_X3 hown hK hP (zk_lt ho (by decide)) (zx_3 ho) rfl 0 (by decide) kX3_mostWith_f9 rfl (v := .ref (ad (o + 1))) rfl dX3_mostWith_15 ?_
  refine lv_iload_n hx hb dX3_mostWith_18 rfl (lv_at hl 3 rfl) ?_
  obtain ⟨g5, hF⟩ := zgd_inv hF
  refine z_iald hx hb hK hP (zk_lt (zk_3a ho) (by decide)) (zx_107 (zk_3a ho)) rfl g5 dX3_mostWith_19 ?_
  obtain ⟨r7, σ6, hC8, hF⟩ := zbd_inv hF
  refine z_calli (va_runV (As := [.int (σ1 (o + 2) (r2 : Int32).toNatClampNeg), .int (σ1 (o + 1) (p2 : Int32).toNatClampNeg)]) (rest := []) ⟨hx, hb, hml, hown, hts⟩ (CX4_bringing l D cI cS cP ad A n σ1 σ6 r7 q3 (σ1 (o + 2) (r2 : Int32).toNatClampNeg) (σ1 (o + 1) (p2 : Int32).toNatClampNeg) hq3 hC8) (cwV 2 hts gX3_mostWith_X4_bringing rfl rfl rfl (by decide +kernel) ⟨Nat.le_of_ble_eq_true rfl, Nat.le_of_ble_eq_true rfl⟩) (z_preV hN hK hP hD (zk_lt hq3 (by decide)) (zx_4 hq3) rfl) rfl rfl hl.1 rfl (lv_room (Nat.le_of_ble_eq_true rfl)) dX3_mostWith_20 ⟨Nat.zero_le _, Nat.zero_le _⟩) hS (fun H locs hP hD hS => ?_)
  refine lv_aload_n hx hb dX3_mostWith_23 rfl (lv_at hl 1 rfl) ?_
  refine z_get (ci := 3) (C := RX3) (T := TX3) (N := 5) hx hb hts iX3_mostWith_X3 hown hK hP (zk_lt ho (by decide)) (zx_3 ho) rfl 3 (by decide) kX3_mostWith_f21 rfl (v := .ref (ad (o + 4))) rfl dX3_mostWith_24 ?_
  refine lv_iload_n hx hb dX3_mostWith_27 rfl (lv_at hl 2 rfl) ?_
  refine lv_iconst (v := (1 : Int32)) hx hb dX3_mostWith_28 (by decide) ?_
  refine lv_iload_n hx hb dX3_mostWith_29 rfl (lv_at hl 3 rfl) ?_
  refine lv_ishl hx hb dX3_mostWith_30 ?_
  refine lv_ior hx hb dX3_mostWith_31 ?_
  obtain ⟨g9, hF⟩ := zgd_inv hF
  refine z_iald hx hb hK hP (zk_lt (zk_3d ho) (by decide)) (zx_228 (zk_3d ho)) rfl g9 dX3_mostWith_32 ?_
  refine lv_iadd hx hb dX3_mostWith_33 ?_
  exact z_iret hx hb hr hlocks hN hK hP hD hS hF dX3_mostWith_34
theorem kX3_nextPlace_f24 : Cond.fieldLink RX3 24 "LeastAsked$Planner" "length" "I" ∈ wsX3_nextPlace := by decide +kernel
theorem iX3_nextPlace_X3 : ∀ w ∈ u_ws RX3 TX3 5, w ∈ wsX3_nextPlace := fun _ h => List.mem_cons_of_mem _ (List.mem_append_left _ (List.mem_append_left _ (List.mem_append_right _ h)))
set_option maxHeartbeats 4000000 in
set_option maxRecDepth 100000 in
theorem CX3_nextPlace (l : Launch) (D : va_G) (cI cS cP : ClassId) (ad : Nat → Nat) (A : Nat → Prop) (n : Nat) (σ σ' : zMem) (r0 : Int32) (o : Nat) (q2 : Nat) (p1 : Int32) (ho : zk o = 3) (hq2 : zk q2 = 4) (hF : FX3_nextPlace n o q2 σ p1 = some (r0, σ')) : Met l yX3_nextPlace wsX3_nextPlace ({ frames := 3, cells := 0, slots := 0, locals := 68 } : Room) (va_Pc [.ref (ad o), .int p1, .ref (ad q2)] (zB (zx cI cS cP ad) 41 ad D (zty cI cS cP) A σ)) (va_Qi (fun r u => r = r0 ∧ u = σ') (zB (zx cI cS cP ad) 41 ad D (zty cI cS cP) A) A) 0 0 A := by
  refine Met.ofW (cc := cX3_nextPlace) (maxL := 7) (ret := (some .int)) (by decide) rfl ?_
  intro p e s m args below meth c s₁ B hml hv
  obtain ⟨rfl, hP, hK, hD, hN⟩ := hv
  have hx := B.exec
  have hb := B.bytes
  have hr := B.returns
  have hts := atoms_spec (ws := wsX3_nextPlace) B.pre
  have hown : s.vm.findClass RX3 = some m.cls := findClass_of_methodNamed B.named
  have hlocks := B.notSynchronized
  have hS : va_S A s.heap s.heap [] := va_S.rf
  have hl := lv_entry ([.ref (ad o), .int p1, .ref (ad q2)]) (n := 7) (Nat.le_of_ble_eq_true rfl)
  rw [lg_entry_eq]
  generalize (lg_sl ([.ref (ad o), .int p1, .ref (ad q2)]) ++ List.replicate (7 - (lg_sl ([.ref (ad o), .int p1, .ref (ad q2)])).length) Slot.unset).toArray = ls at hl ⊢
  have hl : lv_has ls 7 [(0, .ref (ad o)), (1, .int p1), (2, .ref (ad q2))] := hl
  clear B
  have hB8 : ∀ (f8 : Nat) (σ : zMem) (l1 : Int32) (l3 : Int32) (l4 : Int32) (l5 : Int32), ∀ (H : Heap) (locs : List Loc) (ls : Array Slot), zlp (LX3_nextPlace_8 n o q2) f8 (σ, l1, l3, l4, l5) = some (r0, σ') → va_P D vwCl (zW (zx cI cS cP ad) 41 ad σ) H → va_D A (zW (zx cI cS cP ad) 41 ad σ) → va_S A s.heap H locs → lv_has ls 7 [(0, .ref (ad o)), (1, .int l1), (2, .ref (ad q2)), (3, .int l3), (4, .int l4), (5, .int l5)] → W p l e (headSpec wsX3_nextPlace ({ frames := 3, cells := 0, slots := 0, locals := 68 } : Room)).room s m ([.ref (ad o), .int p1, .ref (ad q2)] : List Value).toArray below meth c H locs 0 0 (MQ below (va_Qi (fun r u => r = r0 ∧ u = σ') (zB (zx cI cS cP ad) 41 ad D (zty cI cS cP) A) A) ([.ref (ad o), .int p1, .ref (ad q2)] : List Value).toArray s 0 0 A) (F0 m 8 ls []) := by
    intro f8
    induction f8 with
    | zero => intro σ l1 l3 l4 l5 H locs ls hF hP hD hS hl; exact (zlp_0 hF).elim
    | succ f8 ih8 =>
      have hB31 : ∀ (σ : zMem) (l1 : Int32) (l3 : Int32) (l4 : Int32) (l5 : Int32) (s0 : Int32), ∀ (H : Heap) (locs : List Loc) (ls : Array Slot), BX3_nextPlace_31 n o q2 (zlp (LX3_nextPlace_8 n o q2) f8) σ l1 l3 l4 l5 s0 = some (r0, σ') → va_P D vwCl (zW (zx cI cS cP ad) 41 ad σ) H → va_D A (zW (zx cI cS cP ad) 41 ad σ) → va_S A s.heap H locs → lv_has ls 7 [(0, .ref (ad o)), (1, .int l1), (2, .ref (ad q2)), (3, .int l3), (4, .int l4), (5, .int l5)] → W p l e (headSpec wsX3_nextPlace ({ frames := 3, cells := 0, slots := 0, locals := 68 } : Room)).room s m ([.ref (ad o), .int p1, .ref (ad q2)] : List Value).toArray below meth c H locs 0 0 (MQ below (va_Qi (fun r u => r = r0 ∧ u = σ') (zB (zx cI cS cP ad) 41 ad D (zty cI cS cP) A) A) ([.ref (ad o), .int p1, .ref (ad q2)] : List Value).toArray s 0 0 A) (F0 m 31 ls [.int s0]) := by
        intro σ l1 l3 l4 l5 s0 H locs ls hF hP hD hS hl
        unfold BX3_nextPlace_31 at hF
        refine lv_istore (lv' := [(6, .int s0), (0, .ref (ad o)), (1, .int l1), (2, .ref (ad q2)), (3, .int l3), (4, .int l4), (5, .int l5)]) hx hb dX3_nextPlace_31 hl (by decide) rfl (fun ls hl => ?_)
        refine lv_iload hx hb dX3_nextPlace_33 (lv_at hl 0 rfl) ?_
        refine lv_if_eq (tgt := 64) hx hb dX3_nextPlace_35 (by decide) (fun b1 => ?_) (fun b1 => ?_)
        · have hF := zif_t b1 hF
          refine lv_iinc (v := (l5 + (1 : Int32))) (lv' := [(5, .int (l5 + (1 : Int32))), (6, .int s0), (0, .ref (ad o)), (1, .int l1), (2, .ref (ad q2)), (3, .int l3), (4, .int l4)]) hx hb dX3_nextPlace_64 hl (k := 6) rfl rfl (by decide) rfl (fun ls hl => ?_)
          refine lv_goto (tgt := 8) hx hb dX3_nextPlace_67 (by decide) ?_
          exact ih8 σ l1 l3 l4 (l5 + (1 : Int32)) _ _ _ hF hP hD hS (lv_sub hl [2, 3, 4, 5, 6, 0] rfl)
        · have hF := zif_f b1 hF
          refine lv_aload_n hx hb dX3_nextPlace_38 rfl (lv_at hl 1 rfl) ?_
          refine lv_iload_n hx hb dX3_nextPlace_39 rfl (lv_at hl 2 rfl) ?_
          refine lv_iload hx hb dX3_nextPlace_40 (lv_at hl 6 rfl) ?_
          refine lv_aload_n hx hb dX3_nextPlace_42 rfl (lv_at hl 3 rfl) ?_
          obtain ⟨r3, σ2, hC4, hF⟩ := zbd_inv hF
          refine z_calli (va_runV (As := [.int l1, .int l5, .ref (ad q2)]) (rest := []) ⟨hx, hb, hml, hown, hts⟩ (CX3_mostWith l D cI cS cP ad A n σ σ2 r3 o q2 l1 l5 ho hq2 hC4) (cwV 3 hts gX3_nextPlace_X3_mostWith rfl rfl rfl (by decide +kernel) ⟨Nat.le_of_ble_eq_true rfl, Nat.le_of_ble_eq_true rfl⟩) (z_preV hN hK hP hD (zk_lt ho (by decide)) (zx_3 ho) rfl) rfl rfl hl.1 rfl (lv_room (Nat.le_of_ble_eq_true rfl)) dX3_nextPlace_43 ⟨Nat.zero_le _, Nat.zero_le _⟩) hS (fun H locs hP hD hS => ?_)
          refine lv_iload hx hb dX3_nextPlace_46 (lv_at hl 5 rfl) ?_
          refine lv_icmp_le (tgt := 64) hx hb dX3_nextPlace_48 (by decide) (fun b5 => ?_) (fun b5 => ?_)
          · have hF := zif_t b5 hF
            refine lv_iinc (v := (l5 + (1 : Int32))) (lv' := [(5, .int (l5 + (1 : Int32))), (6, .int s0), (0, .ref (ad o)), (1, .int l1), (2, .ref (ad q2)), (3, .int l3), (4, .int l4)]) hx hb dX3_nextPlace_64 hl (k := 6) rfl rfl (by decide) rfl (fun ls hl => ?_)
            refine lv_goto (tgt := 8) hx hb dX3_nextPlace_67 (by decide) ?_
            exact ih8 σ2 l1 l3 l4 (l5 + (1 : Int32)) _ _ _ hF hP hD hS (lv_sub hl [2, 3, 4, 5, 6, 0] rfl)
          · have hF := zif_f b5 hF
            refine lv_aload_n hx hb dX3_nextPlace_51 rfl (lv_at hl 1 rfl) ?_
            refine lv_iload_n hx hb dX3_nextPlace_52 rfl (lv_at hl 2 rfl) ?_
            refine lv_iload hx hb dX3_nextPlace_53 (lv_at hl 6 rfl) ?_
            refine lv_aload_n hx hb dX3_nextPlace_55 rfl (lv_at hl 3 rfl) ?_
            obtain ⟨r7, σ6, hC8, hF⟩ := zbd_inv hF
            refine z_calli (va_runV (As := [.int l1, .int l5, .ref (ad q2)]) (rest := []) ⟨hx, hb, hml, hown, hts⟩ (CX3_mostWith l D cI cS cP ad A n σ2 σ6 r7 o q2 l1 l5 ho hq2 hC8) (cwV 3 hts gX3_nextPlace_X3_mostWith rfl rfl rfl (by decide +kernel) ⟨Nat.le_of_ble_eq_true rfl, Nat.le_of_ble_eq_true rfl⟩) (z_preV hN hK hP hD (zk_lt ho (by decide)) (zx_3 ho) rfl) rfl rfl hl.1 rfl (lv_room (Nat.le_of_ble_eq_true rfl)) dX3_nextPlace_56 ⟨Nat.zero_le _, Nat.zero_le _⟩) hS (fun H locs hP hD hS => ?_)
            refine lv_istore (lv' := [(4, .int r7), (6, .int s0), (0, .ref (ad o)), (1, .int l1), (2, .ref (ad q2)), (3, .int l3), (5, .int l5)]) hx hb dX3_nextPlace_59 hl (by decide) rfl (fun ls hl => ?_)
            refine lv_iload hx hb dX3_nextPlace_61 (lv_at hl 6 rfl) ?_
            refine lv_istore_n (lv' := [(3, .int l5), (4, .int r7), (6, .int s0), (0, .ref (ad o)), (1, .int l1), (2, .ref (ad q2)), (5, .int l5)]) hx hb dX3_nextPlace_63 rfl hl (by decide) rfl (fun ls hl => ?_)
            refine lv_iinc (v := (l5 + (1 : Int32))) (lv' := [(5, .int (l5 + (1 : Int32))), (3, .int l5), (4, .int r7), (6, .int s0), (0, .ref (ad o)), (1, .int l1), (2, .ref (ad q2))]) hx hb dX3_nextPlace_64 hl (k := 6) rfl rfl (by decide) rfl (fun ls hl => ?_)
            refine lv_goto (tgt := 8) hx hb dX3_nextPlace_67 (by decide) ?_
            exact ih8 σ6 l1 l5 r7 (l5 + (1 : Int32)) _ _ _ hF hP hD hS (lv_sub hl [4, 5, 6, 1, 2, 0] rfl)
      intro σ l1 l3 l4 l5 H locs ls hF hP hD hS hl
      have hF : LBX3_nextPlace_8 n o q2  (zlp (LX3_nextPlace_8 n o q2) f8) σ l1 l3 l4 l5 = some (r0, σ') := hF
      unfold LBX3_nextPlace_8 at hF
      refine lv_iload hx hb dX3_nextPlace_8 (lv_at hl 5 rfl) ?_
      refine lv_aload_n hx hb dX3_nextPlace_10 rfl (lv_at hl 0 rfl) ?_
      refine z_get (ci := 3) (C := RX3) (T := TX3) (N := 5) hx hb hts iX3_nextPlace_X3 hown hK hP (zk_lt ho (by decide)) (zx_3 ho) rfl 4 (by decide) kX3_nextPlace_f24 rfl (v := .int (σ o 4)) rfl dX3_nextPlace_11 ?_
      refine lv_icmp_ge (tgt := 70) hx hb dX3_nextPlace_14 (by decide) (fun b9 => ?_) (fun b9 => ?_)
      · have hF := zif_t b9 hF
        refine lv_iload_n hx hb dX3_nextPlace_70 rfl (lv_at hl 3 rfl) ?_
        exact z_iret hx hb hr hlocks hN hK hP hD hS hF dX3_nextPlace_71
      · have hF := zif_f b9 hF
        refine lv_iload_n hx hb dX3_nextPlace_17 rfl (lv_at hl 1 rfl) ?_
        refine lv_iload hx hb dX3_nextPlace_18 (lv_at hl 5 rfl) ?_
        refine lv_ishr hx hb dX3_nextPlace_20 ?_
        refine lv_iconst (v := (1 : Int32)) hx hb dX3_nextPlace_21 (by decide) ?_
        refine lv_iand hx hb dX3_nextPlace_22 ?_
        refine lv_if_ne (tgt := 30) hx hb dX3_nextPlace_23 (by decide) (fun b10 => ?_) (fun b10 => ?_)
        · have hF := zif_f b10 hF
          refine lv_iconst (v := (0 : Int32)) hx hb dX3_nextPlace_30 (by decide) ?_
          exact hB31 σ l1 l3 l4 l5 (0 : Int32) _ _ _ hF hP hD hS (lv_sub hl [0, 1, 2, 3, 4, 5] rfl)
        · have hF := zif_t b10 hF
          refine lv_iconst (v := (1 : Int32)) hx hb dX3_nextPlace_26 (by decide) ?_
          refine lv_goto (tgt := 31) hx hb dX3_nextPlace_27 (by decide) ?_
          exact hB31 σ l1 l3 l4 l5 (1 : Int32) _ _ _ hF hP hD hS (lv_sub hl [0, 1, 2, 3, 4, 5] rfl)
  unfold FX3_nextPlace at hF
  refine lv_iconst (v := (0 : Int32)) hx hb dX3_nextPlace_0 (by decide) ?_
  refine lv_istore_n (lv' := [(3, .int (0 : Int32)), (0, .ref (ad o)), (1, .int p1), (2, .ref (ad q2))]) hx hb dX3_nextPlace_1 rfl hl (by decide) rfl (fun ls hl => ?_)
  refine lv_iconst (v := (-1 : Int32)) hx hb dX3_nextPlace_2 (by decide) ?_
  refine lv_istore (lv' := [(4, .int (-1 : Int32)), (3, .int (0 : Int32)), (0, .ref (ad o)), (1, .int p1), (2, .ref (ad q2))]) hx hb dX3_nextPlace_3 hl (by decide) rfl (fun ls hl => ?_)
  refine lv_iconst (v := (0 : Int32)) hx hb dX3_nextPlace_5 (by decide) ?_
  refine lv_istore (lv' := [(5, .int (0 : Int32)), (4, .int (-1 : Int32)), (3, .int (0 : Int32)), (0, .ref (ad o)), (1, .int p1), (2, .ref (ad q2))]) hx hb dX3_nextPlace_6 hl (by decide) rfl (fun ls hl => ?_)
  exact hB8 n σ p1 (0 : Int32) (-1 : Int32) (0 : Int32) _ _ _ hF hP hD hS (lv_sub hl [3, 4, 5, 2, 1, 0] rfl)
theorem kX3_make_f18 : Cond.fieldLink RX3 18 "LeastAsked$Planner" "row" "[I" ∈ wsX3_make := by decide +kernel
theorem kX3_make_f21 : Cond.fieldLink RX3 21 "LeastAsked$Planner" "mostAfter" "[I" ∈ wsX3_make := by decide +kernel
theorem kX3_make_f9 : Cond.fieldLink RX3 9 "LeastAsked$Planner" "matters" "[I" ∈ wsX3_make := by decide +kernel
theorem kX3_make_f28 : Cond.fieldLink RX3 28 "LeastAsked$Sheet" "cells" "[I" ∈ wsX3_make := by decide +kernel
theorem kX3_make_f15 : Cond.fieldLink RX3 15 "LeastAsked$Planner" "whoIsAsked" "[I" ∈ wsX3_make := by decide +kernel
theorem kX3_make_f39 : Cond.fieldLink RX3 39 "LeastAsked$Province" "people" "[LLeastAsked$Person;" ∈ wsX3_make := by decide +kernel
theorem kX3_make_f43 : Cond.fieldLink RX3 43 "LeastAsked$Person" "asked" "I" ∈ wsX3_make := by decide +kernel
theorem kX3_make_f24 : Cond.fieldLink RX3 24 "LeastAsked$Planner" "length" "I" ∈ wsX3_make := by decide +kernel
theorem iX3_make_X3 : ∀ w ∈ u_ws RX3 TX3 5, w ∈ wsX3_make := fun _ h => List.mem_cons_of_mem _ (List.mem_append_left _ (List.mem_append_left _ (List.mem_append_left _ (List.mem_append_right _ h))))
theorem iX3_make_X6 : ∀ w ∈ u_ws RX6 TX6 4, w ∈ wsX3_make := fun _ h => List.mem_cons_of_mem _ (List.mem_append_left _ (List.mem_append_left _ (List.mem_append_right _ h)))
theorem iX3_make_X4 : ∀ w ∈ u_ws RX4 TX4 3, w ∈ wsX3_make := fun _ h => List.mem_cons_of_mem _ (List.mem_append_left _ (List.mem_append_right _ h))
theorem iX3_make_X2 : ∀ w ∈ u_ws RX2 TX2 4, w ∈ wsX3_make := fun _ h => List.mem_cons_of_mem _ (List.mem_append_right _ h)
set_option maxHeartbeats 4000000 in
set_option maxRecDepth 100000 in
theorem CX3_make (l : Launch) (D : va_G) (cI cS cP : ClassId) (ad : Nat → Nat) (A : Nat → Prop) (n : Nat) (σ σ' : zMem) (r0 : Int32) (o : Nat) (q1 : Nat) (q4 : Nat) (p2 : Int32) (p3 : Int32) (ho : zk o = 3) (hq1 : zk q1 = 6) (hq4 : zk q4 = 4) (hF : FX3_make n o q1 q4 σ p2 p3 = some (r0, σ')) : Met l yX3_make wsX3_make ({ frames := 4, cells := 0, slots := 0, locals := 94 } : Room) (va_Pc [.ref (ad o), .ref (ad q1), .int p2, .int p3, .ref (ad q4)] (zB (zx cI cS cP ad) 41 ad D (zty cI cS cP) A σ)) (va_Qv (fun u => u = σ') (zB (zx cI cS cP ad) 41 ad D (zty cI cS cP) A) A) 0 0 A := by
  refine Met.ofW (cc := cX3_make) (maxL := 8) (ret := none) (by decide) rfl ?_
  intro p e s m args below meth c s₁ B hml hv
  obtain ⟨rfl, hP, hK, hD, hN⟩ := hv
  have hx := B.exec
  have hb := B.bytes
  have hr := B.returns
  have hts := atoms_spec (ws := wsX3_make) B.pre
  have hown : s.vm.findClass RX3 = some m.cls := findClass_of_methodNamed B.named
  have hlocks := B.notSynchronized
  have hS : va_S A s.heap s.heap [] := va_S.rf
  have hl := lv_entry ([.ref (ad o), .ref (ad q1), .int p2, .int p3, .ref (ad q4)]) (n := 8) (Nat.le_of_ble_eq_true rfl)
  rw [lg_entry_eq]
  generalize (lg_sl ([.ref (ad o), .ref (ad q1), .int p2, .int p3, .ref (ad q4)]) ++ List.replicate (8 - (lg_sl ([.ref (ad o), .ref (ad q1), .int p2, .int p3, .ref (ad q4)])).length) Slot.unset).toArray = ls at hl ⊢
  have hl : lv_has ls 8 [(0, .ref (ad o)), (1, .ref (ad q1)), (2, .int p2), (3, .int p3), (4, .ref (ad q4))] := hl
  clear B
  have hB131 : ∀ (f131 : Nat) (σ : zMem) (l2 : Int32) (l3 : Int32) (l5 : Int32) (l6 : Int32) (l7 : Int32), ∀ (H : Heap) (locs : List Loc) (ls : Array Slot), zlp (LX3_make_131 n o q1 q4) f131 (σ, l2, l3, l5, l6, l7) = some (r0, σ') → va_P D vwCl (zW (zx cI cS cP ad) 41 ad σ) H → va_D A (zW (zx cI cS cP ad) 41 ad σ) → va_S A s.heap H locs → lv_has ls 8 [(0, .ref (ad o)), (1, .ref (ad q1)), (2, .int l2), (3, .int l3), (4, .ref (ad q4)), (5, .int l5), (6, .int l6), (7, .int l7)] → W p l e (headSpec wsX3_make ({ frames := 4, cells := 0, slots := 0, locals := 94 } : Room)).room s m ([.ref (ad o), .ref (ad q1), .int p2, .int p3, .ref (ad q4)] : List Value).toArray below meth c H locs 0 0 (MQ below (va_Qv (fun u => u = σ') (zB (zx cI cS cP ad) 41 ad D (zty cI cS cP) A) A) ([.ref (ad o), .ref (ad q1), .int p2, .int p3, .ref (ad q4)] : List Value).toArray s 0 0 A) (F0 m 131 ls []) := by
    intro f131
    induction f131 with
    | zero => intro σ l2 l3 l5 l6 l7 H locs ls hF hP hD hS hl; exact (zlp_0 hF).elim
    | succ f131 ih131 =>
      intro σ l2 l3 l5 l6 l7 H locs ls hF hP hD hS hl
      have hF : LBX3_make_131 n o q1 q4  (zlp (LX3_make_131 n o q1 q4) f131) σ l2 l3 l5 l6 l7 = some (r0, σ') := hF
      unfold LBX3_make_131 at hF
      refine lv_iload hx hb dX3_make_131 (lv_at hl 7 rfl) ?_
      refine lv_iload_n hx hb dX3_make_133 rfl (lv_at hl 3 rfl) ?_
      refine lv_icmp_ge (tgt := 172) hx hb dX3_make_134 (by decide) (fun b1 => ?_) (fun b1 => ?_)
      · have hF := zif_t b1 hF
        exact z_vret hx hb hr hlocks hN hK hP hD hS hF dX3_make_172
      · have hF := zif_f b1 hF
        refine lv_aload_n hx hb dX3_make_137 rfl (lv_at hl 0 rfl) ?_
        refine z_get (ci := 3) (C := RX3) (T := TX3) (N := 5) hx hb hts iX3_make_X3 hown hK hP (zk_lt ho (by decide)) (zx_3 ho) rfl 2 (by decide) kX3_make_f18 rfl (v := .ref (ad (o + 3))) rfl dX3_make_138 ?_
        refine lv_iload hx hb dX3_make_141 (lv_at hl 7 rfl) ?_
        refine lv_aload_n hx hb dX3_make_143 rfl (lv_at hl 0 rfl) ?_
        refine lv_iload hx hb dX3_make_144 (lv_at hl 6 rfl) ?_
        refine lv_aload hx hb dX3_make_146 (lv_at hl 4 rfl) ?_
        obtain ⟨r3, σ2, hC4, hF⟩ := zbd_inv hF
        refine z_calli (va_runV (As := [.int l6, .ref (ad q4)]) (rest := [.int l7, .ref (ad (o + 3))]) ⟨hx, hb, hml, hown, hts⟩ (CX3_nextPlace l D cI cS cP ad A n σ σ2 r3 o q4 l6 ho hq4 hC4) (cwV 2 hts gX3_make_X3_nextPlace rfl rfl rfl (by decide +kernel) ⟨Nat.le_of_ble_eq_true rfl, Nat.le_of_ble_eq_true rfl⟩) (z_preV hN hK hP hD (zk_lt ho (by decide)) (zx_3 ho) rfl) rfl rfl hl.1 rfl (lv_room (Nat.le_of_ble_eq_true rfl)) dX3_make_148 ⟨Nat.zero_le _, Nat.zero_le _⟩) hS (fun H locs hP hD hS => ?_)
        obtain ⟨g5, hF⟩ := zgd_inv hF
        obtain ⟨σ6, eσ6, hF⟩ := zlet_inv hF
        refine z_iast hx hb hK hP hD hS (zk_lt (zk_3c ho) (by decide)) (fun _ => (zx_107 (zk_3c ho))) rfl g5 dX3_make_151 (fun H locs hP hD hS => ?_)
        have hP : va_P D vwCl (zW (zx cI cS cP ad) 41 ad σ6) H := by rw [eσ6]; exact hP
        have hD : va_D A (zW (zx cI cS cP ad) 41 ad σ6) := by rw [eσ6]; exact hD
        refine lv_iload hx hb dX3_make_152 (lv_at hl 6 rfl) ?_
        refine lv_iconst (v := (1 : Int32)) hx hb dX3_make_154 (by decide) ?_
        refine lv_aload_n hx hb dX3_make_155 rfl (lv_at hl 0 rfl) ?_
        refine z_get (ci := 3) (C := RX3) (T := TX3) (N := 5) hx hb hts iX3_make_X3 hown hK hP (zk_lt ho (by decide)) (zx_3 ho) rfl 2 (by decide) kX3_make_f18 rfl (v := .ref (ad (o + 3))) rfl dX3_make_156 ?_
        refine lv_iload hx hb dX3_make_159 (lv_at hl 7 rfl) ?_
        obtain ⟨g7, hF⟩ := zgd_inv hF
        refine z_iald hx hb hK hP (zk_lt (zk_3c ho) (by decide)) (zx_107 (zk_3c ho)) rfl g7 dX3_make_161 ?_
        refine lv_ishl hx hb dX3_make_162 ?_
        refine lv_ior hx hb dX3_make_163 ?_
        refine lv_istore (lv' := [(6, .int (l6 ||| ((1 : Int32) <<< ((σ6 (o + 3) (l7 : Int32).toNatClampNeg) &&& 31)))), (0, .ref (ad o)), (1, .ref (ad q1)), (2, .int l2), (3, .int l3), (4, .ref (ad q4)), (5, .int l5), (7, .int l7)]) hx hb dX3_make_164 hl (by decide) rfl (fun ls hl => ?_)
        refine lv_iinc (v := (l7 + (1 : Int32))) (lv' := [(7, .int (l7 + (1 : Int32))), (6, .int (l6 ||| ((1 : Int32) <<< ((σ6 (o + 3) (l7 : Int32).toNatClampNeg) &&& 31)))), (0, .ref (ad o)), (1, .ref (ad q1)), (2, .int l2), (3, .int l3), (4, .ref (ad q4)), (5, .int l5)]) hx hb dX3_make_166 hl (k := 7) rfl rfl (by decide) rfl (fun ls hl => ?_)
        refine lv_goto (tgt := 131) hx hb dX3_make_169 (by decide) ?_
        exact ih131 σ6 l2 l3 l5 (l6 ||| ((1 : Int32) <<< ((σ6 (o + 3) (l7 : Int32).toNatClampNeg) &&& 31))) (l7 + (1 : Int32)) _ _ _ hF hP hD hS (lv_sub hl [2, 3, 4, 5, 6, 7, 1, 0] rfl)
  have hB91 : ∀ (f91 : Nat) (σ : zMem) (l2 : Int32) (l3 : Int32) (l5 : Int32) (l6 : Int32), ∀ (H : Heap) (locs : List Loc) (ls : Array Slot), zlp (LX3_make_91 n o q1 q4) f91 (σ, l2, l3, l5, l6) = some (r0, σ') → va_P D vwCl (zW (zx cI cS cP ad) 41 ad σ) H → va_D A (zW (zx cI cS cP ad) 41 ad σ) → va_S A s.heap H locs → lv_has ls 8 [(0, .ref (ad o)), (1, .ref (ad q1)), (2, .int l2), (3, .int l3), (4, .ref (ad q4)), (5, .int l5), (6, .int l6)] → W p l e (headSpec wsX3_make ({ frames := 4, cells := 0, slots := 0, locals := 94 } : Room)).room s m ([.ref (ad o), .ref (ad q1), .int p2, .int p3, .ref (ad q4)] : List Value).toArray below meth c H locs 0 0 (MQ below (va_Qv (fun u => u = σ') (zB (zx cI cS cP ad) 41 ad D (zty cI cS cP) A) A) ([.ref (ad o), .ref (ad q1), .int p2, .int p3, .ref (ad q4)] : List Value).toArray s 0 0 A) (F0 m 91 ls []) := by
    intro f91
    induction f91 with
    | zero => intro σ l2 l3 l5 l6 H locs ls hF hP hD hS hl; exact (zlp_0 hF).elim
    | succ f91 ih91 =>
      intro σ l2 l3 l5 l6 H locs ls hF hP hD hS hl
      have hF : LBX3_make_91 n o q1 q4  (zlp (LX3_make_91 n o q1 q4) f91) σ l2 l3 l5 l6 = some (r0, σ') := hF
      unfold LBX3_make_91 at hF
      refine lv_iload hx hb dX3_make_91 (lv_at hl 6 rfl) ?_
      refine lv_if_lt (tgt := 125) hx hb dX3_make_93 (by decide) (fun b8 => ?_) (fun b8 => ?_)
      · have hF := zif_t b8 hF
        refine lv_iconst (v := (0 : Int32)) hx hb dX3_make_125 (by decide) ?_
        refine lv_istore (lv' := [(6, .int (0 : Int32)), (0, .ref (ad o)), (1, .ref (ad q1)), (2, .int l2), (3, .int l3), (4, .ref (ad q4)), (5, .int l5)]) hx hb dX3_make_126 hl (by decide) rfl (fun ls hl => ?_)
        refine lv_iconst (v := (0 : Int32)) hx hb dX3_make_128 (by decide) ?_
        refine lv_istore (lv' := [(7, .int (0 : Int32)), (6, .int (0 : Int32)), (0, .ref (ad o)), (1, .ref (ad q1)), (2, .int l2), (3, .int l3), (4, .ref (ad q4)), (5, .int l5)]) hx hb dX3_make_129 hl (by decide) rfl (fun ls hl => ?_)
        exact hB131 n σ l2 l3 l5 (0 : Int32) (0 : Int32) _ _ _ hF hP hD hS (lv_sub hl [2, 3, 4, 5, 6, 7, 1, 0] rfl)
      · have hF := zif_f b8 hF
        refine lv_aload_n hx hb dX3_make_96 rfl (lv_at hl 0 rfl) ?_
        refine z_get (ci := 3) (C := RX3) (T := TX3) (N := 5) hx hb hts iX3_make_X3 hown hK hP (zk_lt ho (by decide)) (zx_3 ho) rfl 3 (by decide) kX3_make_f21 rfl (v := .ref (ad (o + 4))) rfl dX3_make_97 ?_
        refine lv_iload hx hb dX3_make_100 (lv_at hl 6 rfl) ?_
        refine lv_aload_n hx hb dX3_make_102 rfl (lv_at hl 0 rfl) ?_
        refine lv_iload hx hb dX3_make_103 (lv_at hl 6 rfl) ?_
        refine lv_aload_n hx hb dX3_make_105 rfl (lv_at hl 0 rfl) ?_
        refine lv_iload hx hb dX3_make_106 (lv_at hl 6 rfl) ?_
        refine lv_aload hx hb dX3_make_108 (lv_at hl 4 rfl) ?_
        obtain ⟨r10, σ9, hC11, hF⟩ := zbd_inv hF
        refine z_calli (va_runV (As := [.int l6, .ref (ad q4)]) (rest := [.int l6, .ref (ad o), .int l6, .ref (ad (o + 4))]) ⟨hx, hb, hml, hown, hts⟩ (CX3_nextPlace l D cI cS cP ad A n σ σ9 r10 o q4 l6 ho hq4 hC11) (cwV 2 hts gX3_make_X3_nextPlace rfl rfl rfl (by decide +kernel) ⟨Nat.le_of_ble_eq_true rfl, Nat.le_of_ble_eq_true rfl⟩) (z_preV hN hK hP hD (zk_lt ho (by decide)) (zx_3 ho) rfl) rfl rfl hl.1 rfl (lv_room (Nat.le_of_ble_eq_true rfl)) dX3_make_110 ⟨Nat.zero_le _, Nat.zero_le _⟩) hS (fun H locs hP hD hS => ?_)
        refine lv_aload hx hb dX3_make_113 (lv_at hl 4 rfl) ?_
        obtain ⟨r13, σ12, hC14, hF⟩ := zbd_inv hF
        refine z_calli (va_runV (As := [.int l6, .int r10, .ref (ad q4)]) (rest := [.int l6, .ref (ad (o + 4))]) ⟨hx, hb, hml, hown, hts⟩ (CX3_mostWith l D cI cS cP ad A n σ9 σ12 r13 o q4 l6 r10 ho hq4 hC14) (cwV 3 hts gX3_make_X3_mostWith rfl rfl rfl (by decide +kernel) ⟨Nat.le_of_ble_eq_true rfl, Nat.le_of_ble_eq_true rfl⟩) (z_preV hN hK hP hD (zk_lt ho (by decide)) (zx_3 ho) rfl) rfl rfl hl.1 rfl (lv_room (Nat.le_of_ble_eq_true rfl)) dX3_make_115 ⟨Nat.zero_le _, Nat.zero_le _⟩) hS (fun H locs hP hD hS => ?_)
        obtain ⟨g15, hF⟩ := zgd_inv hF
        obtain ⟨σ16, eσ16, hF⟩ := zlet_inv hF
        refine z_iast hx hb hK hP hD hS (zk_lt (zk_3d ho) (by decide)) (fun _ => (zx_228 (zk_3d ho))) rfl g15 dX3_make_118 (fun H locs hP hD hS => ?_)
        have hP : va_P D vwCl (zW (zx cI cS cP ad) 41 ad σ16) H := by rw [eσ16]; exact hP
        have hD : va_D A (zW (zx cI cS cP ad) 41 ad σ16) := by rw [eσ16]; exact hD
        refine lv_iinc (v := (l6 + (-1 : Int32))) (lv' := [(6, .int (l6 + (-1 : Int32))), (0, .ref (ad o)), (1, .ref (ad q1)), (2, .int l2), (3, .int l3), (4, .ref (ad q4)), (5, .int l5)]) hx hb dX3_make_119 hl (k := 6) rfl rfl (by decide) rfl (fun ls hl => ?_)
        refine lv_goto (tgt := 91) hx hb dX3_make_122 (by decide) ?_
        exact ih91 σ16 l2 l3 l5 (l6 + (-1 : Int32)) _ _ _ hF hP hD hS (lv_sub hl [1, 2, 3, 4, 5, 6, 0] rfl)
  have hB8 : ∀ (f8 : Nat) (σ : zMem) (l2 : Int32) (l3 : Int32) (l5 : Int32), ∀ (H : Heap) (locs : List Loc) (ls : Array Slot), zlp (LX3_make_8 n o q1 q4) f8 (σ, l2, l3, l5) = some (r0, σ') → va_P D vwCl (zW (zx cI cS cP ad) 41 ad σ) H → va_D A (zW (zx cI cS cP ad) 41 ad σ) → va_S A s.heap H locs → lv_has ls 8 [(0, .ref (ad o)), (1, .ref (ad q1)), (2, .int l2), (3, .int l3), (4, .ref (ad q4)), (5, .int l5)] → W p l e (headSpec wsX3_make ({ frames := 4, cells := 0, slots := 0, locals := 94 } : Room)).room s m ([.ref (ad o), .ref (ad q1), .int p2, .int p3, .ref (ad q4)] : List Value).toArray below meth c H locs 0 0 (MQ below (va_Qv (fun u => u = σ') (zB (zx cI cS cP ad) 41 ad D (zty cI cS cP) A) A) ([.ref (ad o), .ref (ad q1), .int p2, .int p3, .ref (ad q4)] : List Value).toArray s 0 0 A) (F0 m 8 ls []) := by
    intro f8
    induction f8 with
    | zero => intro σ l2 l3 l5 H locs ls hF hP hD hS hl; exact (zlp_0 hF).elim
    | succ f8 ih8 =>
      intro σ l2 l3 l5 H locs ls hF hP hD hS hl
      have hF : LBX3_make_8 n o q1 q4  (zlp (LX3_make_8 n o q1 q4) f8) σ l2 l3 l5 = some (r0, σ') := hF
      unfold LBX3_make_8 at hF
      refine lv_iload hx hb dX3_make_8 (lv_at hl 5 rfl) ?_
      refine lv_iload_n hx hb dX3_make_10 rfl (lv_at hl 3 rfl) ?_
      refine lv_icmp_ge (tgt := 70) hx hb dX3_make_11 (by decide) (fun b17 => ?_) (fun b17 => ?_)
      · have hF := zif_t b17 hF
        refine lv_iconst (v := (1 : Int32)) hx hb dX3_make_70 (by decide) ?_
        refine lv_iload_n hx hb dX3_make_71 rfl (lv_at hl 3 rfl) ?_
        refine lv_ishl hx hb dX3_make_72 ?_
        refine lv_iconst (v := (1 : Int32)) hx hb dX3_make_73 (by decide) ?_
        refine lv_isub hx hb dX3_make_74 ?_
        refine lv_istore (lv' := [(5, .int (((1 : Int32) <<< (l3 &&& 31)) - (1 : Int32))), (0, .ref (ad o)), (1, .ref (ad q1)), (2, .int l2), (3, .int l3), (4, .ref (ad q4))]) hx hb dX3_make_75 hl (by decide) rfl (fun ls hl => ?_)
        refine lv_aload_n hx hb dX3_make_77 rfl (lv_at hl 1 rfl) ?_
        refine z_get (ci := 3) (C := RX3) (T := TX3) (N := 5) hx hb hts iX3_make_X3 hown hK hP (zk_lt ho (by decide)) (zx_3 ho) rfl 3 (by decide) kX3_make_f21 rfl (v := .ref (ad (o + 4))) rfl dX3_make_78 ?_
        refine lv_iload hx hb dX3_make_81 (lv_at hl 0 rfl) ?_
        refine lv_iconst (v := (0 : Int32)) hx hb dX3_make_83 (by decide) ?_
        obtain ⟨g18, hF⟩ := zgd_inv hF
        obtain ⟨σ19, eσ19, hF⟩ := zlet_inv hF
        refine z_iast hx hb hK hP hD hS (zk_lt (zk_3d ho) (by decide)) (fun _ => (zx_228 (zk_3d ho))) rfl g18 dX3_make_84 (fun H locs hP hD hS => ?_)
        have hP : va_P D vwCl (zW (zx cI cS cP ad) 41 ad σ19) H := by rw [eσ19]; exact hP
        have hD : va_D A (zW (zx cI cS cP ad) 41 ad σ19) := by rw [eσ19]; exact hD
        refine lv_iload hx hb dX3_make_85 (lv_at hl 0 rfl) ?_
        refine lv_iconst (v := (1 : Int32)) hx hb dX3_make_87 (by decide) ?_
        refine lv_isub hx hb dX3_make_88 ?_
        refine lv_istore (lv' := [(6, .int ((((1 : Int32) <<< (l3 &&& 31)) - (1 : Int32)) - (1 : Int32))), (5, .int (((1 : Int32) <<< (l3 &&& 31)) - (1 : Int32))), (0, .ref (ad o)), (1, .ref (ad q1)), (2, .int l2), (3, .int l3), (4, .ref (ad q4))]) hx hb dX3_make_89 hl (by decide) rfl (fun ls hl => ?_)
        exact hB91 n σ19 l2 l3 (((1 : Int32) <<< (l3 &&& 31)) - (1 : Int32)) ((((1 : Int32) <<< (l3 &&& 31)) - (1 : Int32)) - (1 : Int32)) _ _ _ hF hP hD hS (lv_sub hl [2, 3, 4, 5, 6, 1, 0] rfl)
      · have hF := zif_f b17 hF
        refine lv_aload_n hx hb dX3_make_14 rfl (lv_at hl 0 rfl) ?_
        refine z_get (ci := 3) (C := RX3) (T := TX3) (N := 5) hx hb hts iX3_make_X3 hown hK hP (zk_lt ho (by decide)) (zx_3 ho) rfl 0 (by decide) kX3_make_f9 rfl (v := .ref (ad (o + 1))) rfl dX3_make_15 ?_
        refine lv_iload hx hb dX3_make_18 (lv_at hl 5 rfl) ?_
        refine lv_aload_n hx hb dX3_make_20 rfl (lv_at hl 1 rfl) ?_
        refine z_get (ci := 6) (C := RX6) (T := TX6) (N := 4) hx hb hts iX3_make_X6 hown hK hP (zk_lt hq1 (by decide)) (zx_6 hq1) rfl 0 (by decide) kX3_make_f28 rfl (v := .ref (ad (q1 + 4))) rfl dX3_make_21 ?_
        refine lv_iload_n hx hb dX3_make_24 rfl (lv_at hl 2 rfl) ?_
        refine lv_iload hx hb dX3_make_25 (lv_at hl 5 rfl) ?_
        refine lv_iadd hx hb dX3_make_27 ?_
        obtain ⟨g20, hF⟩ := zgd_inv hF
        refine z_iald hx hb hK hP (zk_lt (zk_6c hq1) (by decide)) (zx_160 (zk_6c hq1)) rfl g20 dX3_make_28 ?_
        obtain ⟨g21, hF⟩ := zgd_inv hF
        obtain ⟨σ22, eσ22, hF⟩ := zlet_inv hF
        refine z_iast hx hb hK hP hD hS (zk_lt (zk_3a ho) (by decide)) (fun _ => (zx_107 (zk_3a ho))) rfl g21 dX3_make_29 (fun H locs hP hD hS => ?_)
        have hP : va_P D vwCl (zW (zx cI cS cP ad) 41 ad σ22) H := by rw [eσ22]; exact hP
        have hD : va_D A (zW (zx cI cS cP ad) 41 ad σ22) := by rw [eσ22]; exact hD
        refine lv_aload_n hx hb dX3_make_30 rfl (lv_at hl 0 rfl) ?_
        refine z_get (ci := 3) (C := RX3) (T := TX3) (N := 5) hx hb hts iX3_make_X3 hown hK hP (zk_lt ho (by decide)) (zx_3 ho) rfl 1 (by decide) kX3_make_f15 rfl (v := .ref (ad (o + 2))) rfl dX3_make_31 ?_
        refine lv_iload hx hb dX3_make_34 (lv_at hl 5 rfl) ?_
        refine lv_aload hx hb dX3_make_36 (lv_at hl 4 rfl) ?_
        obtain ⟨r24, σ23, hC25, hF⟩ := zbd_inv hF
        refine z_calli (va_runV (As := []) (rest := [.int l5, .ref (ad (o + 2))]) ⟨hx, hb, hml, hown, hts⟩ (CX4_first l D cI cS cP ad A n σ22 σ23 r24 q4 hq4 hC25) (cwV 0 hts gX3_make_X4_first rfl rfl rfl (by decide +kernel) ⟨Nat.le_of_ble_eq_true rfl, Nat.le_of_ble_eq_true rfl⟩) (z_preV hN hK hP hD (zk_lt hq4 (by decide)) (zx_4 hq4) rfl) rfl rfl hl.1 rfl (lv_room (Nat.le_of_ble_eq_true rfl)) dX3_make_38 ⟨Nat.zero_le _, Nat.zero_le _⟩) hS (fun H locs hP hD hS => ?_)
        obtain ⟨g26, hF⟩ := zgd_inv hF
        obtain ⟨σ27, eσ27, hF⟩ := zlet_inv hF
        refine z_iast hx hb hK hP hD hS (zk_lt (zk_3b ho) (by decide)) (fun _ => (zx_107 (zk_3b ho))) rfl g26 dX3_make_41 (fun H locs hP hD hS => ?_)
        have hP : va_P D vwCl (zW (zx cI cS cP ad) 41 ad σ27) H := by rw [eσ27]; exact hP
        have hD : va_D A (zW (zx cI cS cP ad) 41 ad σ27) := by rw [eσ27]; exact hD
        refine lv_aload hx hb dX3_make_42 (lv_at hl 4 rfl) ?_
        refine z_get (ci := 4) (C := RX4) (T := TX4) (N := 3) hx hb hts iX3_make_X4 hown hK hP (zk_lt hq4 (by decide)) (zx_4 hq4) rfl 1 (by decide) kX3_make_f39 rfl (v := .ref (ad (q4 + 2))) rfl dX3_make_44 ?_
        refine lv_aload_n hx hb dX3_make_47 rfl (lv_at hl 0 rfl) ?_
        refine z_get (ci := 3) (C := RX3) (T := TX3) (N := 5) hx hb hts iX3_make_X3 hown hK hP (zk_lt ho (by decide)) (zx_3 ho) rfl 1 (by decide) kX3_make_f15 rfl (v := .ref (ad (o + 2))) rfl dX3_make_48 ?_
        refine lv_iload hx hb dX3_make_51 (lv_at hl 5 rfl) ?_
        obtain ⟨g28, hF⟩ := zgd_inv hF
        refine z_iald hx hb hK hP (zk_lt (zk_3b ho) (by decide)) (zx_107 (zk_3b ho)) rfl g28 dX3_make_53 ?_
        obtain ⟨g29, hF⟩ := zgd_inv hF
        refine z_aldq hx hb hK hP 2 (zk_lt (zk_4p hq4) (by decide)) (zx_22 (zk_4p hq4)) rfl g29 dX3_make_54 ?_
        refine lv_dup hx hb dX3_make_55 rfl ?_
        refine z_get (ci := 2) (C := RX2) (T := TX2) (N := 4) hx hb hts iX3_make_X2 hown hK hP (zk_lt (zk_22p (zk_4p hq4) g29) (by decide)) (zx_2 (zk_22p (zk_4p hq4) g29)) rfl 1 (by decide) kX3_make_f43 rfl (v := .int (σ27 ((q4 + 3) + ((σ27 (o + 2) (l5 : Int32).toNatClampNeg) : Int32).toNatClampNeg) 1)) rfl dX3_make_56 ?_
        refine lv_iconst (v := (1 : Int32)) hx hb dX3_make_59 (by decide) ?_
        refine lv_iadd hx hb dX3_make_60 ?_
        obtain ⟨σ30, eσ30, hF⟩ := zlet_inv hF
        refine z_put (ci := 2) (C := RX2) (T := TX2) (N := 4) hx hb hts iX3_make_X2 tyX2 tyX2_ok nmX2 hown hK hP hD hS (zk_lt (zk_22p (zk_4p hq4) g29) (by decide)) (zx_2 (zk_22p (zk_4p hq4) g29)) rfl 1 (by decide) kX3_make_f43 rfl rfl rfl rfl (Nat.le_of_ble_eq_true rfl) (zx_2 (zk_22p (zk_4p hq4) g29)) dX3_make_61 (fun H locs hP hD hS => ?_)
        have hP : va_P D vwCl (zW (zx cI cS cP ad) 41 ad σ30) H := by rw [eσ30]; exact hP
        have hD : va_D A (zW (zx cI cS cP ad) 41 ad σ30) := by rw [eσ30]; exact hD
        refine lv_iinc (v := (l5 + (1 : Int32))) (lv' := [(5, .int (l5 + (1 : Int32))), (0, .ref (ad o)), (1, .ref (ad q1)), (2, .int l2), (3, .int l3), (4, .ref (ad q4))]) hx hb dX3_make_64 hl (k := 5) rfl rfl (by decide) rfl (fun ls hl => ?_)
        refine lv_goto (tgt := 8) hx hb dX3_make_67 (by decide) ?_
        exact ih8 σ30 l2 l3 (l5 + (1 : Int32)) _ _ _ hF hP hD hS (lv_sub hl [1, 2, 3, 4, 5, 0] rfl)
  unfold FX3_make at hF
  refine lv_aload_n hx hb dX3_make_0 rfl (lv_at hl 0 rfl) ?_
  refine lv_iload_n hx hb dX3_make_1 rfl (lv_at hl 3 rfl) ?_
  obtain ⟨σ31, eσ31, hF⟩ := zlet_inv hF
  refine z_put (ci := 3) (C := RX3) (T := TX3) (N := 5) hx hb hts iX3_make_X3 tyX3 tyX3_ok nmX3 hown hK hP hD hS (zk_lt ho (by decide)) (zx_3 ho) rfl 4 (by decide) kX3_make_f24 rfl rfl rfl rfl (Nat.le_of_ble_eq_true rfl) (zx_3 ho) dX3_make_2 (fun H locs hP hD hS => ?_)
  have hP : va_P D vwCl (zW (zx cI cS cP ad) 41 ad σ31) H := by rw [eσ31]; exact hP
  have hD : va_D A (zW (zx cI cS cP ad) 41 ad σ31) := by rw [eσ31]; exact hD
  refine lv_iconst (v := (0 : Int32)) hx hb dX3_make_5 (by decide) ?_
  refine lv_istore (lv' := [(5, .int (0 : Int32)), (0, .ref (ad o)), (1, .ref (ad q1)), (2, .int p2), (3, .int p3), (4, .ref (ad q4))]) hx hb dX3_make_6 hl (by decide) rfl (fun ls hl => ?_)
  exact hB8 n σ31 p2 p3 (0 : Int32) _ _ _ hF hP hD hS (lv_sub hl [1, 2, 3, 4, 5, 0] rfl)
theorem kX3_answer_f24 : Cond.fieldLink RX3 24 "LeastAsked$Planner" "length" "I" ∈ wsX3_answer := by decide +kernel
theorem kX3_answer_f18 : Cond.fieldLink RX3 18 "LeastAsked$Planner" "row" "[I" ∈ wsX3_answer := by decide +kernel
theorem kX3_answer_f21 : Cond.fieldLink RX3 21 "LeastAsked$Planner" "mostAfter" "[I" ∈ wsX3_answer := by decide +kernel
theorem iX3_answer_X3 : ∀ w ∈ u_ws RX3 TX3 5, w ∈ wsX3_answer := fun _ h => List.mem_cons_of_mem _ (List.mem_append_right _ h)
set_option maxHeartbeats 4000000 in
set_option maxRecDepth 100000 in
theorem CX3_answer (l : Launch) (D : va_G) (cI cS cP : ClassId) (ad : Nat → Nat) (A : Nat → Prop) (n : Nat) (σ σ' : zMem) (r0 : Int32) (o : Nat) (p1 : Int32) (ho : zk o = 3) (hF : FX3_answer n o σ p1 = some (r0, σ')) : Met l yX3_answer wsX3_answer ({ frames := 0, cells := 0, slots := 0, locals := 0 } : Room) (va_Pc [.ref (ad o), .int p1] (zB (zx cI cS cP ad) 41 ad D (zty cI cS cP) A σ)) (va_Qi (fun r u => r = r0 ∧ u = σ') (zB (zx cI cS cP ad) 41 ad D (zty cI cS cP) A) A) 0 0 A := by
  refine Met.ofW (cc := cX3_answer) (maxL := 2) (ret := (some .int)) (by decide) rfl ?_
  intro p e s m args below meth c s₁ B hml hv
  obtain ⟨rfl, hP, hK, hD, hN⟩ := hv
  have hx := B.exec
  have hb := B.bytes
  have hr := B.returns
  have hts := atoms_spec (ws := wsX3_answer) B.pre
  have hown : s.vm.findClass RX3 = some m.cls := findClass_of_methodNamed B.named
  have hlocks := B.notSynchronized
  have hS : va_S A s.heap s.heap [] := va_S.rf
  have hl := lv_entry ([.ref (ad o), .int p1]) (n := 2) (Nat.le_of_ble_eq_true rfl)
  rw [lg_entry_eq]
  generalize (lg_sl ([.ref (ad o), .int p1]) ++ List.replicate (2 - (lg_sl ([.ref (ad o), .int p1])).length) Slot.unset).toArray = ls at hl ⊢
  have hl : lv_has ls 2 [(0, .ref (ad o)), (1, .int p1)] := hl
  clear B
  unfold FX3_answer at hF
  refine lv_iload_n hx hb dX3_answer_0 rfl (lv_at hl 1 rfl) ?_
  refine lv_iconst (v := (-1 : Int32)) hx hb dX3_answer_1 (by decide) ?_
  refine lv_icmp_ne (tgt := 12) hx hb dX3_answer_2 (by decide) (fun b1 => ?_) (fun b1 => ?_)
  · have hF := zif_f b1 hF
    refine lv_iload_n hx hb dX3_answer_12 rfl (lv_at hl 1 rfl) ?_
    refine lv_aload_n hx hb dX3_answer_13 rfl (lv_at hl 0 rfl) ?_
    refine z_get (ci := 3) (C := RX3) (T := TX3) (N := 5) hx hb hts iX3_answer_X3 hown hK hP (zk_lt ho (by decide)) (zx_3 ho) rfl 4 (by decide) kX3_answer_f24 rfl (v := .int (σ o 4)) rfl dX3_answer_14 ?_
    refine lv_icmp_ge (tgt := 29) hx hb dX3_answer_17 (by decide) (fun b2 => ?_) (fun b2 => ?_)
    · have hF := zif_t b2 hF
      refine lv_bipush (v := (-9 : Int32)) hx hb dX3_answer_29 (by decide) ?_
      exact z_iret hx hb hr hlocks hN hK hP hD hS hF dX3_answer_31
    · have hF := zif_f b2 hF
      refine lv_aload_n hx hb dX3_answer_20 rfl (lv_at hl 0 rfl) ?_
      refine z_get (ci := 3) (C := RX3) (T := TX3) (N := 5) hx hb hts iX3_answer_X3 hown hK hP (zk_lt ho (by decide)) (zx_3 ho) rfl 2 (by decide) kX3_answer_f18 rfl (v := .ref (ad (o + 3))) rfl dX3_answer_21 ?_
      refine lv_iload_n hx hb dX3_answer_24 rfl (lv_at hl 1 rfl) ?_
      obtain ⟨g3, hF⟩ := zgd_inv hF
      refine z_iald hx hb hK hP (zk_lt (zk_3c ho) (by decide)) (zx_107 (zk_3c ho)) rfl g3 dX3_answer_25 ?_
      refine lv_goto (tgt := 31) hx hb dX3_answer_26 (by decide) ?_
      exact z_iret hx hb hr hlocks hN hK hP hD hS hF dX3_answer_31
  · have hF := zif_t b1 hF
    refine lv_aload_n hx hb dX3_answer_5 rfl (lv_at hl 0 rfl) ?_
    refine z_get (ci := 3) (C := RX3) (T := TX3) (N := 5) hx hb hts iX3_answer_X3 hown hK hP (zk_lt ho (by decide)) (zx_3 ho) rfl 3 (by decide) kX3_answer_f21 rfl (v := .ref (ad (o + 4))) rfl dX3_answer_6 ?_
    refine lv_iconst (v := (0 : Int32)) hx hb dX3_answer_9 (by decide) ?_
    refine z_iald hx hb hK hP (zk_lt (zk_3d ho) (by decide)) (zx_228 (zk_3d ho)) rfl (by decide) dX3_answer_10 ?_
    exact z_iret hx hb hr hlocks hN hK hP hD hS hF dX3_answer_11
theorem kX4_becomeLike_f17 : Cond.fieldLink RX4 17 "LeastAsked$Province" "people" "[LLeastAsked$Person;" ∈ wsX4_becomeLike := by decide +kernel
theorem kX4_becomeLike_f21 : Cond.fieldLink RX4 21 "LeastAsked$Province" "count" "I" ∈ wsX4_becomeLike := by decide +kernel
theorem kX4_becomeLike_f9 : Cond.fieldLink RX4 9 "LeastAsked$Province" "worths" "[I" ∈ wsX4_becomeLike := by decide +kernel
theorem kX4_becomeLike_m26 : Cond.methodLink RX4 26 arraycopyName ∈ wsX4_becomeLike := by decide +kernel
theorem kX4_becomeLike_nat : Cond.native arraycopyName ∈ wsX4_becomeLike := by decide +kernel
theorem kX4_becomeLike_stat : Cond.static arraycopyName ∈ wsX4_becomeLike := by decide +kernel
theorem kX4_becomeLike_iS : Cond.initialized "java/lang/System" ∈ wsX4_becomeLike := by decide +kernel
theorem iX4_becomeLike_X4 : ∀ w ∈ u_ws RX4 TX4 3, w ∈ wsX4_becomeLike := fun _ h => List.mem_cons_of_mem _ (List.mem_append_left _ (List.mem_append_right _ h))
set_option maxHeartbeats 4000000 in
set_option maxRecDepth 100000 in
theorem CX4_becomeLike (l : Launch) (D : va_G) (cI cS cP : ClassId) (ad : Nat → Nat) (A : Nat → Prop) (n : Nat) (σ σ' : zMem) (r0 : Int32) (o : Nat) (q1 : Nat) (ho : zk o = 4) (hq1 : zk q1 = 4) (hF : FX4_becomeLike n o q1 σ = some (r0, σ')) : Met l yX4_becomeLike wsX4_becomeLike ({ frames := 1, cells := 0, slots := 0, locals := 40 } : Room) (va_Pc [.ref (ad o), .ref (ad q1)] (zB (zx cI cS cP ad) 41 ad D (zty cI cS cP) A σ)) (va_Qv (fun u => u = σ') (zB (zx cI cS cP ad) 41 ad D (zty cI cS cP) A) A) 0 0 A := by
  refine Met.ofW (cc := cX4_becomeLike) (maxL := 3) (ret := none) (by decide) rfl ?_
  intro p e s m args below meth c s₁ B hml hv
  obtain ⟨rfl, hP, hK, hD, hN⟩ := hv
  have hx := B.exec
  have hb := B.bytes
  have hr := B.returns
  have hts := atoms_spec (ws := wsX4_becomeLike) B.pre
  have hown : s.vm.findClass RX4 = some m.cls := findClass_of_methodNamed B.named
  have hlocks := B.notSynchronized
  have hS : va_S A s.heap s.heap [] := va_S.rf
  have hl := lv_entry ([.ref (ad o), .ref (ad q1)]) (n := 3) (Nat.le_of_ble_eq_true rfl)
  rw [lg_entry_eq]
  generalize (lg_sl ([.ref (ad o), .ref (ad q1)]) ++ List.replicate (3 - (lg_sl ([.ref (ad o), .ref (ad q1)])).length) Slot.unset).toArray = ls at hl ⊢
  have hl : lv_has ls 3 [(0, .ref (ad o)), (1, .ref (ad q1))] := hl
  clear B
  have hB24 : ∀ (f24 : Nat) (σ : zMem) (l2 : Int32), ∀ (H : Heap) (locs : List Loc) (ls : Array Slot), zlp (LX4_becomeLike_24 n o q1) f24 (σ, l2) = some (r0, σ') → va_P D vwCl (zW (zx cI cS cP ad) 41 ad σ) H → va_D A (zW (zx cI cS cP ad) 41 ad σ) → va_S A s.heap H locs → lv_has ls 3 [(0, .ref (ad o)), (1, .ref (ad q1)), (2, .int l2)] → W p l e (headSpec wsX4_becomeLike ({ frames := 1, cells := 0, slots := 0, locals := 40 } : Room)).room s m ([.ref (ad o), .ref (ad q1)] : List Value).toArray below meth c H locs 0 0 (MQ below (va_Qv (fun u => u = σ') (zB (zx cI cS cP ad) 41 ad D (zty cI cS cP) A) A) ([.ref (ad o), .ref (ad q1)] : List Value).toArray s 0 0 A) (F0 m 24 ls []) := by
    intro f24
    induction f24 with
    | zero => intro σ l2 H locs ls hF hP hD hS hl; exact (zlp_0 hF).elim
    | succ f24 ih24 =>
      intro σ l2 H locs ls hF hP hD hS hl
      have hF : LBX4_becomeLike_24 n o q1  (zlp (LX4_becomeLike_24 n o q1) f24) σ l2 = some (r0, σ') := hF
      unfold LBX4_becomeLike_24 at hF
      refine lv_iload_n hx hb dX4_becomeLike_24 rfl (lv_at hl 2 rfl) ?_
      refine lv_bipush (v := (6 : Int32)) hx hb dX4_becomeLike_25 (by decide) ?_
      refine lv_icmp_ge (tgt := 51) hx hb dX4_becomeLike_27 (by decide) (fun b1 => ?_) (fun b1 => ?_)
      · have hF := zif_t b1 hF
        exact z_vret hx hb hr hlocks hN hK hP hD hS hF dX4_becomeLike_51
      · have hF := zif_f b1 hF
        refine lv_aload_n hx hb dX4_becomeLike_30 rfl (lv_at hl 0 rfl) ?_
        refine z_get (ci := 4) (C := RX4) (T := TX4) (N := 3) hx hb hts iX4_becomeLike_X4 hown hK hP (zk_lt ho (by decide)) (zx_4 ho) rfl 1 (by decide) kX4_becomeLike_f17 rfl (v := .ref (ad (o + 2))) rfl dX4_becomeLike_31 ?_
        refine lv_iload_n hx hb dX4_becomeLike_34 rfl (lv_at hl 2 rfl) ?_
        obtain ⟨g2, hF⟩ := zgd_inv hF
        refine z_aldq hx hb hK hP 2 (zk_lt (zk_4p ho) (by decide)) (zx_22 (zk_4p ho)) rfl g2 dX4_becomeLike_35 ?_
        refine lv_aload_n hx hb dX4_becomeLike_36 rfl (lv_at hl 1 rfl) ?_
        refine z_get (ci := 4) (C := RX4) (T := TX4) (N := 3) hx hb hts iX4_becomeLike_X4 hown hK hP (zk_lt hq1 (by decide)) (zx_4 hq1) rfl 1 (by decide) kX4_becomeLike_f17 rfl (v := .ref (ad (q1 + 2))) rfl dX4_becomeLike_37 ?_
        refine lv_iload_n hx hb dX4_becomeLike_40 rfl (lv_at hl 2 rfl) ?_
        obtain ⟨g3, hF⟩ := zgd_inv hF
        refine z_aldq hx hb hK hP 2 (zk_lt (zk_4p hq1) (by decide)) (zx_22 (zk_4p hq1)) rfl g3 dX4_becomeLike_41 ?_
        obtain ⟨r5, σ4, hC6, hF⟩ := zbd_inv hF
        refine z_callv (va_runV (As := [.ref (ad ((q1 + 3) + (l2 : Int32).toNatClampNeg))]) (rest := []) ⟨hx, hb, hml, hown, hts⟩ (CX2_becomeLike l D cI cS cP ad A n σ σ4 r5 ((o + 3) + (l2 : Int32).toNatClampNeg) ((q1 + 3) + (l2 : Int32).toNatClampNeg) (zk_22p (zk_4p ho) g2) (zk_22p (zk_4p hq1) g3) hC6) (cwV 1 hts gX4_becomeLike_X2_becomeLike rfl rfl rfl (by decide +kernel) ⟨Nat.le_of_ble_eq_true rfl, Nat.le_of_ble_eq_true rfl⟩) (z_preV hN hK hP hD (zk_lt (zk_22p (zk_4p ho) g2) (by decide)) (zx_2 (zk_22p (zk_4p ho) g2)) rfl) rfl rfl hl.1 rfl (lv_room (Nat.le_of_ble_eq_true rfl)) dX4_becomeLike_42 ⟨Nat.zero_le _, Nat.zero_le _⟩) hS (fun H locs hP hD hS => ?_)
        refine lv_iinc (v := (l2 + (1 : Int32))) (lv' := [(2, .int (l2 + (1 : Int32))), (0, .ref (ad o)), (1, .ref (ad q1))]) hx hb dX4_becomeLike_45 hl (k := 2) rfl rfl (by decide) rfl (fun ls hl => ?_)
        refine lv_goto (tgt := 24) hx hb dX4_becomeLike_48 (by decide) ?_
        exact ih24 σ4 (l2 + (1 : Int32)) _ _ _ hF hP hD hS (lv_sub hl [1, 2, 0] rfl)
  unfold FX4_becomeLike at hF
  refine lv_aload_n hx hb dX4_becomeLike_0 rfl (lv_at hl 0 rfl) ?_
  refine lv_aload_n hx hb dX4_becomeLike_1 rfl (lv_at hl 1 rfl) ?_
  refine z_get (ci := 4) (C := RX4) (T := TX4) (N := 3) hx hb hts iX4_becomeLike_X4 hown hK hP (zk_lt hq1 (by decide)) (zx_4 hq1) rfl 2 (by decide) kX4_becomeLike_f21 rfl (v := .int (σ q1 2)) rfl dX4_becomeLike_2 ?_
  obtain ⟨σ7, eσ7, hF⟩ := zlet_inv hF
  refine z_put (ci := 4) (C := RX4) (T := TX4) (N := 3) hx hb hts iX4_becomeLike_X4 tyX4 tyX4_ok nmX4 hown hK hP hD hS (zk_lt ho (by decide)) (zx_4 ho) rfl 2 (by decide) kX4_becomeLike_f21 rfl rfl rfl rfl (Nat.le_of_ble_eq_true rfl) (zx_4 ho) dX4_becomeLike_5 (fun H locs hP hD hS => ?_)
  have hP : va_P D vwCl (zW (zx cI cS cP ad) 41 ad σ7) H := by rw [eσ7]; exact hP
  have hD : va_D A (zW (zx cI cS cP ad) 41 ad σ7) := by rw [eσ7]; exact hD
  refine lv_aload_n hx hb dX4_becomeLike_8 rfl (lv_at hl 1 rfl) ?_
  refine z_get (ci := 4) (C := RX4) (T := TX4) (N := 3) hx hb hts iX4_becomeLike_X4 hown hK hP (zk_lt hq1 (by decide)) (zx_4 hq1) rfl 0 (by decide) kX4_becomeLike_f9 rfl (v := .ref (ad (q1 + 1))) rfl dX4_becomeLike_9 ?_
  refine lv_iconst (v := (0 : Int32)) hx hb dX4_becomeLike_12 (by decide) ?_
  refine lv_aload_n hx hb dX4_becomeLike_13 rfl (lv_at hl 0 rfl) ?_
  refine z_get (ci := 4) (C := RX4) (T := TX4) (N := 3) hx hb hts iX4_becomeLike_X4 hown hK hP (zk_lt ho (by decide)) (zx_4 ho) rfl 0 (by decide) kX4_becomeLike_f9 rfl (v := .ref (ad (o + 1))) rfl dX4_becomeLike_14 ?_
  refine lv_iconst (v := (0 : Int32)) hx hb dX4_becomeLike_17 (by decide) ?_
  refine lv_iconst (v := (3 : Int32)) hx hb dX4_becomeLike_18 (by decide) ?_
  obtain ⟨g8, hF⟩ := zgd_inv hF
  obtain ⟨σ9, eσ9, hF⟩ := zlet_inv hF
  refine z_copy hx hb (hml.trans hl.1.symm) hown (hts _ kX4_becomeLike_m26) (hts _ kX4_becomeLike_nat) (hts _ kX4_becomeLike_stat) (hts _ kX4_becomeLike_iS) hK hP hD hS (zk_lt (zk_4w hq1) (by decide)) (zx_103 (zk_4w hq1)) (zk_lt (zk_4w ho) (by decide)) (fun _ => (zx_103 (zk_4w ho))) rfl g8 (Nat.le_of_ble_eq_true rfl) (Nat.le_of_ble_eq_true rfl) dX4_becomeLike_19 (fun H locs hP hD hS => ?_)
  have hP : va_P D vwCl (zW (zx cI cS cP ad) 41 ad σ9) H := by rw [eσ9]; exact hP
  have hD : va_D A (zW (zx cI cS cP ad) 41 ad σ9) := by rw [eσ9]; exact hD
  refine lv_iconst (v := (0 : Int32)) hx hb dX4_becomeLike_22 (by decide) ?_
  refine lv_istore_n (lv' := [(2, .int (0 : Int32)), (0, .ref (ad o)), (1, .ref (ad q1))]) hx hb dX4_becomeLike_23 rfl hl (by decide) rfl (fun ls hl => ?_)
  exact hB24 n σ9 (0 : Int32) _ _ _ hF hP hD hS (lv_sub hl [1, 2, 0] rfl)
theorem kX4_suppose_f17 : Cond.fieldLink RX4 17 "LeastAsked$Province" "people" "[LLeastAsked$Person;" ∈ wsX4_suppose := by decide +kernel
theorem kX4_suppose_f36 : Cond.fieldLink RX4 36 "LeastAsked$Person" "knows" "I" ∈ wsX4_suppose := by decide +kernel
theorem kX4_suppose_f39 : Cond.fieldLink RX4 39 "LeastAsked$Person" "wit" "I" ∈ wsX4_suppose := by decide +kernel
theorem kX4_suppose_f42 : Cond.fieldLink RX4 42 "LeastAsked$Person" "kind" "I" ∈ wsX4_suppose := by decide +kernel
theorem kX4_suppose_f9 : Cond.fieldLink RX4 9 "LeastAsked$Province" "worths" "[I" ∈ wsX4_suppose := by decide +kernel
theorem iX4_suppose_X4 : ∀ w ∈ u_ws RX4 TX4 3, w ∈ wsX4_suppose := fun _ h => List.mem_cons_of_mem _ (List.mem_append_left _ (List.mem_append_right _ h))
theorem iX4_suppose_X2 : ∀ w ∈ u_ws RX2 TX2 4, w ∈ wsX4_suppose := fun _ h => List.mem_cons_of_mem _ (List.mem_append_right _ h)
set_option maxHeartbeats 4000000 in
set_option maxRecDepth 100000 in
theorem CX4_suppose (l : Launch) (D : va_G) (cI cS cP : ClassId) (ad : Nat → Nat) (A : Nat → Prop) (n : Nat) (σ σ' : zMem) (r0 : Int32) (o : Nat) (p1 : Int32) (p2 : Int32) (p3 : Int32) (ho : zk o = 4) (hF : FX4_suppose n o σ p1 p2 p3 = some (r0, σ')) : Met l yX4_suppose wsX4_suppose ({ frames := 0, cells := 0, slots := 0, locals := 0 } : Room) (va_Pc [.ref (ad o), .int p1, .int p2, .int p3] (zB (zx cI cS cP ad) 41 ad D (zty cI cS cP) A σ)) (va_Qv (fun u => u = σ') (zB (zx cI cS cP ad) 41 ad D (zty cI cS cP) A) A) 0 0 A := by
  refine Met.ofW (cc := cX4_suppose) (maxL := 4) (ret := none) (by decide) rfl ?_
  intro p e s m args below meth c s₁ B hml hv
  obtain ⟨rfl, hP, hK, hD, hN⟩ := hv
  have hx := B.exec
  have hb := B.bytes
  have hr := B.returns
  have hts := atoms_spec (ws := wsX4_suppose) B.pre
  have hown : s.vm.findClass RX4 = some m.cls := findClass_of_methodNamed B.named
  have hlocks := B.notSynchronized
  have hS : va_S A s.heap s.heap [] := va_S.rf
  have hl := lv_entry ([.ref (ad o), .int p1, .int p2, .int p3]) (n := 4) (Nat.le_of_ble_eq_true rfl)
  rw [lg_entry_eq]
  generalize (lg_sl ([.ref (ad o), .int p1, .int p2, .int p3]) ++ List.replicate (4 - (lg_sl ([.ref (ad o), .int p1, .int p2, .int p3])).length) Slot.unset).toArray = ls at hl ⊢
  have hl : lv_has ls 4 [(0, .ref (ad o)), (1, .int p1), (2, .int p2), (3, .int p3)] := hl
  clear B
  unfold FX4_suppose at hF
  refine lv_iload_n hx hb dX4_suppose_0 rfl (lv_at hl 1 rfl) ?_
  by_cases b1 : p1 = (0 : Int32)
  · have hF := zif_t b1 hF
    refine lv_tableIn (tgt := 28) hx hb dX4_suppose_1 (by rw [b1]; decide) (by rw [b1]; decide) (by rw [b1]; rfl) (by decide) ?_
    refine lv_aload_n hx hb dX4_suppose_28 rfl (lv_at hl 0 rfl) ?_
    refine z_get (ci := 4) (C := RX4) (T := TX4) (N := 3) hx hb hts iX4_suppose_X4 hown hK hP (zk_lt ho (by decide)) (zx_4 ho) rfl 1 (by decide) kX4_suppose_f17 rfl (v := .ref (ad (o + 2))) rfl dX4_suppose_29 ?_
    refine lv_iload_n hx hb dX4_suppose_32 rfl (lv_at hl 2 rfl) ?_
    obtain ⟨g2, hF⟩ := zgd_inv hF
    refine z_aldq hx hb hK hP 2 (zk_lt (zk_4p ho) (by decide)) (zx_22 (zk_4p ho)) rfl g2 dX4_suppose_33 ?_
    refine lv_iload_n hx hb dX4_suppose_34 rfl (lv_at hl 3 rfl) ?_
    obtain ⟨σ3, eσ3, hF⟩ := zlet_inv hF
    refine z_put (ci := 2) (C := RX2) (T := TX2) (N := 4) hx hb hts iX4_suppose_X2 tyX2 tyX2_ok nmX2 hown hK hP hD hS (zk_lt (zk_22p (zk_4p ho) g2) (by decide)) (zx_2 (zk_22p (zk_4p ho) g2)) rfl 2 (by decide) kX4_suppose_f36 rfl rfl rfl rfl (Nat.le_of_ble_eq_true rfl) (zx_2 (zk_22p (zk_4p ho) g2)) dX4_suppose_35 (fun H locs hP hD hS => ?_)
    have hP : va_P D vwCl (zW (zx cI cS cP ad) 41 ad σ3) H := by rw [eσ3]; exact hP
    have hD : va_D A (zW (zx cI cS cP ad) 41 ad σ3) := by rw [eσ3]; exact hD
    refine lv_goto (tgt := 74) hx hb dX4_suppose_38 (by decide) ?_
    exact z_vret hx hb hr hlocks hN hK hP hD hS hF dX4_suppose_74
  · have hF := zif_f b1 hF
    by_cases b4 : p1 = (1 : Int32)
    · have hF := zif_t b4 hF
      refine lv_tableIn (tgt := 41) hx hb dX4_suppose_1 (by rw [b4]; decide) (by rw [b4]; decide) (by rw [b4]; rfl) (by decide) ?_
      refine lv_aload_n hx hb dX4_suppose_41 rfl (lv_at hl 0 rfl) ?_
      refine z_get (ci := 4) (C := RX4) (T := TX4) (N := 3) hx hb hts iX4_suppose_X4 hown hK hP (zk_lt ho (by decide)) (zx_4 ho) rfl 1 (by decide) kX4_suppose_f17 rfl (v := .ref (ad (o + 2))) rfl dX4_suppose_42 ?_
      refine lv_iload_n hx hb dX4_suppose_45 rfl (lv_at hl 2 rfl) ?_
      obtain ⟨g5, hF⟩ := zgd_inv hF
      refine z_aldq hx hb hK hP 2 (zk_lt (zk_4p ho) (by decide)) (zx_22 (zk_4p ho)) rfl g5 dX4_suppose_46 ?_
      refine lv_iload_n hx hb dX4_suppose_47 rfl (lv_at hl 3 rfl) ?_
      obtain ⟨σ6, eσ6, hF⟩ := zlet_inv hF
      refine z_put (ci := 2) (C := RX2) (T := TX2) (N := 4) hx hb hts iX4_suppose_X2 tyX2 tyX2_ok nmX2 hown hK hP hD hS (zk_lt (zk_22p (zk_4p ho) g5) (by decide)) (zx_2 (zk_22p (zk_4p ho) g5)) rfl 3 (by decide) kX4_suppose_f39 rfl rfl rfl rfl (Nat.le_of_ble_eq_true rfl) (zx_2 (zk_22p (zk_4p ho) g5)) dX4_suppose_48 (fun H locs hP hD hS => ?_)
      have hP : va_P D vwCl (zW (zx cI cS cP ad) 41 ad σ6) H := by rw [eσ6]; exact hP
      have hD : va_D A (zW (zx cI cS cP ad) 41 ad σ6) := by rw [eσ6]; exact hD
      refine lv_goto (tgt := 74) hx hb dX4_suppose_51 (by decide) ?_
      exact z_vret hx hb hr hlocks hN hK hP hD hS hF dX4_suppose_74
    · have hF := zif_f b4 hF
      by_cases b7 : p1 = (2 : Int32)
      · have hF := zif_t b7 hF
        refine lv_tableIn (tgt := 54) hx hb dX4_suppose_1 (by rw [b7]; decide) (by rw [b7]; decide) (by rw [b7]; rfl) (by decide) ?_
        refine lv_aload_n hx hb dX4_suppose_54 rfl (lv_at hl 0 rfl) ?_
        refine z_get (ci := 4) (C := RX4) (T := TX4) (N := 3) hx hb hts iX4_suppose_X4 hown hK hP (zk_lt ho (by decide)) (zx_4 ho) rfl 1 (by decide) kX4_suppose_f17 rfl (v := .ref (ad (o + 2))) rfl dX4_suppose_55 ?_
        refine lv_iload_n hx hb dX4_suppose_58 rfl (lv_at hl 2 rfl) ?_
        obtain ⟨g8, hF⟩ := zgd_inv hF
        refine z_aldq hx hb hK hP 2 (zk_lt (zk_4p ho) (by decide)) (zx_22 (zk_4p ho)) rfl g8 dX4_suppose_59 ?_
        refine lv_iload_n hx hb dX4_suppose_60 rfl (lv_at hl 3 rfl) ?_
        obtain ⟨σ9, eσ9, hF⟩ := zlet_inv hF
        refine z_put (ci := 2) (C := RX2) (T := TX2) (N := 4) hx hb hts iX4_suppose_X2 tyX2 tyX2_ok nmX2 hown hK hP hD hS (zk_lt (zk_22p (zk_4p ho) g8) (by decide)) (zx_2 (zk_22p (zk_4p ho) g8)) rfl 0 (by decide) kX4_suppose_f42 rfl rfl rfl rfl (Nat.le_of_ble_eq_true rfl) (zx_2 (zk_22p (zk_4p ho) g8)) dX4_suppose_61 (fun H locs hP hD hS => ?_)
        have hP : va_P D vwCl (zW (zx cI cS cP ad) 41 ad σ9) H := by rw [eσ9]; exact hP
        have hD : va_D A (zW (zx cI cS cP ad) 41 ad σ9) := by rw [eσ9]; exact hD
        refine lv_goto (tgt := 74) hx hb dX4_suppose_64 (by decide) ?_
        exact z_vret hx hb hr hlocks hN hK hP hD hS hF dX4_suppose_74
      · have hF := zif_f b7 hF
        refine lv_tableOut (tgt := 67) hx hb dX4_suppose_1 (by have nb1 := lv_neT b1 (a := 0) (by decide); have nb4 := lv_neT b4 (a := 1) (by decide); have nb7 := lv_neT b7 (a := 2) (by decide); omega) (by decide) ?_
        refine lv_aload_n hx hb dX4_suppose_67 rfl (lv_at hl 0 rfl) ?_
        refine z_get (ci := 4) (C := RX4) (T := TX4) (N := 3) hx hb hts iX4_suppose_X4 hown hK hP (zk_lt ho (by decide)) (zx_4 ho) rfl 0 (by decide) kX4_suppose_f9 rfl (v := .ref (ad (o + 1))) rfl dX4_suppose_68 ?_
        refine lv_iload_n hx hb dX4_suppose_71 rfl (lv_at hl 2 rfl) ?_
        refine lv_iload_n hx hb dX4_suppose_72 rfl (lv_at hl 3 rfl) ?_
        obtain ⟨g10, hF⟩ := zgd_inv hF
        obtain ⟨σ11, eσ11, hF⟩ := zlet_inv hF
        refine z_iast hx hb hK hP hD hS (zk_lt (zk_4w ho) (by decide)) (fun _ => (zx_103 (zk_4w ho))) rfl g10 dX4_suppose_73 (fun H locs hP hD hS => ?_)
        have hP : va_P D vwCl (zW (zx cI cS cP ad) 41 ad σ11) H := by rw [eσ11]; exact hP
        have hD : va_D A (zW (zx cI cS cP ad) 41 ad σ11) := by rw [eσ11]; exact hD
        exact z_vret hx hb hr hlocks hN hK hP hD hS hF dX4_suppose_74
theorem kX4_hasMatter_f21 : Cond.fieldLink RX4 21 "LeastAsked$Province" "count" "I" ∈ wsX4_hasMatter := by decide +kernel
theorem kX4_hasMatter_iX9 : Cond.initialized RX9 ∈ wsX4_hasMatter := by decide +kernel
theorem kX4_hasMatter_stX9_isBelow : Cond.static yX9_isBelow ∈ wsX4_hasMatter := by decide +kernel
theorem iX4_hasMatter_X4 : ∀ w ∈ u_ws RX4 TX4 3, w ∈ wsX4_hasMatter := fun _ h => List.mem_cons_of_mem _ (List.mem_append_right _ h)
set_option maxHeartbeats 4000000 in
set_option maxRecDepth 100000 in
theorem CX4_hasMatter (l : Launch) (D : va_G) (cI cS cP : ClassId) (ad : Nat → Nat) (A : Nat → Prop) (n : Nat) (σ σ' : zMem) (r0 : Int32) (o : Nat) (p1 : Int32) (ho : zk o = 4) (hF : FX4_hasMatter n o σ p1 = some (r0, σ')) : Met l yX4_hasMatter wsX4_hasMatter ({ frames := 1, cells := 0, slots := 0, locals := 21 } : Room) (va_Pc [.ref (ad o), .int p1] (zB (zx cI cS cP ad) 41 ad D (zty cI cS cP) A σ)) (va_Qi (fun r u => r = r0 ∧ u = σ') (zB (zx cI cS cP ad) 41 ad D (zty cI cS cP) A) A) 0 0 A := by
  refine Met.ofW (cc := cX4_hasMatter) (maxL := 2) (ret := (some .boolean)) (by decide) rfl ?_
  intro p e s m args below meth c s₁ B hml hv
  obtain ⟨rfl, hP, hK, hD, hN⟩ := hv
  have hx := B.exec
  have hb := B.bytes
  have hr := B.returns
  have hts := atoms_spec (ws := wsX4_hasMatter) B.pre
  have hown : s.vm.findClass RX4 = some m.cls := findClass_of_methodNamed B.named
  have hlocks := B.notSynchronized
  have hS : va_S A s.heap s.heap [] := va_S.rf
  have hl := lv_entry ([.ref (ad o), .int p1]) (n := 2) (Nat.le_of_ble_eq_true rfl)
  rw [lg_entry_eq]
  generalize (lg_sl ([.ref (ad o), .int p1]) ++ List.replicate (2 - (lg_sl ([.ref (ad o), .int p1])).length) Slot.unset).toArray = ls at hl ⊢
  have hl : lv_has ls 2 [(0, .ref (ad o)), (1, .int p1)] := hl
  clear B
  unfold FX4_hasMatter at hF
  refine lv_aload_n hx hb dX4_hasMatter_0 rfl (lv_at hl 0 rfl) ?_
  refine z_get (ci := 4) (C := RX4) (T := TX4) (N := 3) hx hb hts iX4_hasMatter_X4 hown hK hP (zk_lt ho (by decide)) (zx_4 ho) rfl 2 (by decide) kX4_hasMatter_f21 rfl (v := .int (σ o 2)) rfl dX4_hasMatter_1 ?_
  refine lv_if_le (tgt := 19) hx hb dX4_hasMatter_4 (by decide) (fun b1 => ?_) (fun b1 => ?_)
  · have hF := zif_t b1 hF
    refine lv_iconst (v := (0 : Int32)) hx hb dX4_hasMatter_19 (by decide) ?_
    exact z_zret hx hb hr hlocks (Or.inl rfl) hN hK hP hD hS hF dX4_hasMatter_20
  · have hF := zif_f b1 hF
    refine lv_iload_n hx hb dX4_hasMatter_7 rfl (lv_at hl 1 rfl) ?_
    refine lv_iconst (v := (3 : Int32)) hx hb dX4_hasMatter_8 (by decide) ?_
    obtain ⟨r3, σ2, hC4, hF⟩ := zbd_inv hF
    refine z_calli (va_runSN (As := [.int p1, .int (3 : Int32)]) (rest := []) ⟨hx, hb, hml, hown, hts⟩ (CX9_isBelow l D cI cS cP ad A n σ σ2 r3 p1 (3 : Int32) hC4) ⟨va_cnB 2 hts gX4_hasMatter_X9_isBelow_n45 rfl rfl rfl hN.1 (hts _ kX4_hasMatter_iX9) (by decide +kernel) ⟨Nat.le_of_ble_eq_true rfl, Nat.le_of_ble_eq_true rfl⟩, hts _ kX4_hasMatter_stX9_isBelow, trivial⟩ (z_preS hN hK hP hD) rfl rfl hl.1 rfl (lv_room (Nat.le_of_ble_eq_true rfl)) dX4_hasMatter_9 ⟨Nat.zero_le _, Nat.zero_le _⟩) hS (fun H locs hP hD hS => ?_)
    refine lv_if_eq (tgt := 19) hx hb dX4_hasMatter_12 (by decide) (fun b5 => ?_) (fun b5 => ?_)
    · have hF := zif_t b5 hF
      refine lv_iconst (v := (0 : Int32)) hx hb dX4_hasMatter_19 (by decide) ?_
      exact z_zret hx hb hr hlocks (Or.inl rfl) hN hK hP hD hS hF dX4_hasMatter_20
    · have hF := zif_f b5 hF
      refine lv_iconst (v := (1 : Int32)) hx hb dX4_hasMatter_15 (by decide) ?_
      refine lv_goto (tgt := 20) hx hb dX4_hasMatter_16 (by decide) ?_
      exact z_zret hx hb hr hlocks (Or.inr rfl) hN hK hP hD hS hF dX4_hasMatter_20
theorem kX4_timesAhead_f17 : Cond.fieldLink RX4 17 "LeastAsked$Province" "people" "[LLeastAsked$Person;" ∈ wsX4_timesAhead := by decide +kernel
theorem kX4_timesAhead_f57 : Cond.fieldLink RX4 57 "LeastAsked$Person" "asked" "I" ∈ wsX4_timesAhead := by decide +kernel
theorem kX4_timesAhead_m68 : Cond.methodLink RX4 68 Lib.Math.max.name ∈ wsX4_timesAhead := by decide +kernel
theorem kX4_timesAhead_s68 : Cond.static Lib.Math.max.name ∈ wsX4_timesAhead := by decide +kernel
theorem kX4_timesAhead_iM : Cond.initialized "java/lang/Math" ∈ wsX4_timesAhead := by decide +kernel
theorem kX4_timesAhead_c68 : Cond.code Lib.Math.max.name Lib.Math.max.code 2 (some .int) ∈ wsX4_timesAhead := by decide +kernel
theorem iX4_timesAhead_X4 : ∀ w ∈ u_ws RX4 TX4 3, w ∈ wsX4_timesAhead := fun _ h => List.mem_cons_of_mem _ (List.mem_append_left _ (List.mem_append_right _ h))
theorem iX4_timesAhead_X2 : ∀ w ∈ u_ws RX2 TX2 4, w ∈ wsX4_timesAhead := fun _ h => List.mem_cons_of_mem _ (List.mem_append_right _ h)
set_option maxHeartbeats 4000000 in
set_option maxRecDepth 100000 in
theorem CX4_timesAhead (l : Launch) (D : va_G) (cI cS cP : ClassId) (ad : Nat → Nat) (A : Nat → Prop) (n : Nat) (σ σ' : zMem) (r0 : Int32) (o : Nat) (p1 : Int32) (p2 : Int32) (ho : zk o = 4) (hF : FX4_timesAhead n o σ p1 p2 = some (r0, σ')) : Met l yX4_timesAhead wsX4_timesAhead ({ frames := 1, cells := 0, slots := 0, locals := 21 } : Room) (va_Pc [.ref (ad o), .int p1, .int p2] (zB (zx cI cS cP ad) 41 ad D (zty cI cS cP) A σ)) (va_Qi (fun r u => r = r0 ∧ u = σ') (zB (zx cI cS cP ad) 41 ad D (zty cI cS cP) A) A) 0 0 A := by
  refine Met.ofW (cc := cX4_timesAhead) (maxL := 4) (ret := (some .int)) (by decide) rfl ?_
  intro p e s m args below meth c s₁ B hml hv
  obtain ⟨rfl, hP, hK, hD, hN⟩ := hv
  have hx := B.exec
  have hb := B.bytes
  have hr := B.returns
  have hts := atoms_spec (ws := wsX4_timesAhead) B.pre
  have hown : s.vm.findClass RX4 = some m.cls := findClass_of_methodNamed B.named
  have hlocks := B.notSynchronized
  have hS : va_S A s.heap s.heap [] := va_S.rf
  have hl := lv_entry ([.ref (ad o), .int p1, .int p2]) (n := 4) (Nat.le_of_ble_eq_true rfl)
  rw [lg_entry_eq]
  generalize (lg_sl ([.ref (ad o), .int p1, .int p2]) ++ List.replicate (4 - (lg_sl ([.ref (ad o), .int p1, .int p2])).length) Slot.unset).toArray = ls at hl ⊢
  have hl : lv_has ls 4 [(0, .ref (ad o)), (1, .int p1), (2, .int p2)] := hl
  clear B
  have hB19 : ∀ (σ : zMem) (l1 : Int32) (l2 : Int32) (s0 : Int32) (s1 : Int32), ∀ (H : Heap) (locs : List Loc) (ls : Array Slot), BX4_timesAhead_19 n o σ l1 l2 s0 s1 = some (r0, σ') → va_P D vwCl (zW (zx cI cS cP ad) 41 ad σ) H → va_D A (zW (zx cI cS cP ad) 41 ad σ) → va_S A s.heap H locs → lv_has ls 4 [(0, .ref (ad o)), (1, .int l1), (2, .int l2)] → W p l e (headSpec wsX4_timesAhead ({ frames := 1, cells := 0, slots := 0, locals := 21 } : Room)).room s m ([.ref (ad o), .int p1, .int p2] : List Value).toArray below meth c H locs 0 0 (MQ below (va_Qi (fun r u => r = r0 ∧ u = σ') (zB (zx cI cS cP ad) 41 ad D (zty cI cS cP) A) A) ([.ref (ad o), .int p1, .int p2] : List Value).toArray s 0 0 A) (F0 m 19 ls [.int s1, .int s0]) := by
    intro σ l1 l2 s0 s1 H locs ls hF hP hD hS hl
    unfold BX4_timesAhead_19 at hF
    refine lv_iadd hx hb dX4_timesAhead_19 ?_
    refine lv_istore_n (lv' := [(3, .int (s0 + s1)), (0, .ref (ad o)), (1, .int l1), (2, .int l2)]) hx hb dX4_timesAhead_20 rfl hl (by decide) rfl (fun ls hl => ?_)
    refine lv_iconst (v := (0 : Int32)) hx hb dX4_timesAhead_21 (by decide) ?_
    refine lv_iload_n hx hb dX4_timesAhead_22 rfl (lv_at hl 0 rfl) ?_
    refine lv_aload_n hx hb dX4_timesAhead_23 rfl (lv_at hl 1 rfl) ?_
    refine z_get (ci := 4) (C := RX4) (T := TX4) (N := 3) hx hb hts iX4_timesAhead_X4 hown hK hP (zk_lt ho (by decide)) (zx_4 ho) rfl 1 (by decide) kX4_timesAhead_f17 rfl (v := .ref (ad (o + 2))) rfl dX4_timesAhead_24 ?_
    refine lv_iload_n hx hb dX4_timesAhead_27 rfl (lv_at hl 2 rfl) ?_
    obtain ⟨g1, hF⟩ := zgd_inv hF
    refine z_aldq hx hb hK hP 2 (zk_lt (zk_4p ho) (by decide)) (zx_22 (zk_4p ho)) rfl g1 dX4_timesAhead_28 ?_
    refine z_get (ci := 2) (C := RX2) (T := TX2) (N := 4) hx hb hts iX4_timesAhead_X2 hown hK hP (zk_lt (zk_22p (zk_4p ho) g1) (by decide)) (zx_2 (zk_22p (zk_4p ho) g1)) rfl 1 (by decide) kX4_timesAhead_f57 rfl (v := .int (σ ((o + 3) + (l1 : Int32).toNatClampNeg) 1)) rfl dX4_timesAhead_29 ?_
    refine lv_isub hx hb dX4_timesAhead_32 ?_
    refine va_mmax hx hb (hml.trans hl.1.symm) hown (hts _ kX4_timesAhead_m68) (hts _ kX4_timesAhead_s68) (hts _ kX4_timesAhead_iM) (hts _ kX4_timesAhead_c68) (Nat.le_of_ble_eq_true rfl) (Nat.le_of_ble_eq_true rfl) (Nat.zero_le _) (Nat.zero_le _) dX4_timesAhead_33 ?_
    exact z_iret hx hb hr hlocks hN hK hP hD hS hF dX4_timesAhead_36
  unfold FX4_timesAhead at hF
  refine lv_aload_n hx hb dX4_timesAhead_0 rfl (lv_at hl 0 rfl) ?_
  refine z_get (ci := 4) (C := RX4) (T := TX4) (N := 3) hx hb hts iX4_timesAhead_X4 hown hK hP (zk_lt ho (by decide)) (zx_4 ho) rfl 1 (by decide) kX4_timesAhead_f17 rfl (v := .ref (ad (o + 2))) rfl dX4_timesAhead_1 ?_
  refine lv_iload_n hx hb dX4_timesAhead_4 rfl (lv_at hl 2 rfl) ?_
  obtain ⟨g2, hF⟩ := zgd_inv hF
  refine z_aldq hx hb hK hP 2 (zk_lt (zk_4p ho) (by decide)) (zx_22 (zk_4p ho)) rfl g2 dX4_timesAhead_5 ?_
  refine z_get (ci := 2) (C := RX2) (T := TX2) (N := 4) hx hb hts iX4_timesAhead_X2 hown hK hP (zk_lt (zk_22p (zk_4p ho) g2) (by decide)) (zx_2 (zk_22p (zk_4p ho) g2)) rfl 1 (by decide) kX4_timesAhead_f57 rfl (v := .int (σ ((o + 3) + (p2 : Int32).toNatClampNeg) 1)) rfl dX4_timesAhead_6 ?_
  refine lv_iload_n hx hb dX4_timesAhead_9 rfl (lv_at hl 1 rfl) ?_
  refine lv_iload_n hx hb dX4_timesAhead_10 rfl (lv_at hl 2 rfl) ?_
  refine lv_icmp_ge (tgt := 18) hx hb dX4_timesAhead_11 (by decide) (fun b3 => ?_) (fun b3 => ?_)
  · have hF := zif_t b3 hF
    refine lv_iconst (v := (0 : Int32)) hx hb dX4_timesAhead_18 (by decide) ?_
    exact hB19 σ p1 p2 (σ ((o + 3) + (p2 : Int32).toNatClampNeg) 1) (0 : Int32) _ _ _ hF hP hD hS (lv_sub hl [0, 1, 2] rfl)
  · have hF := zif_f b3 hF
    refine lv_iconst (v := (1 : Int32)) hx hb dX4_timesAhead_14 (by decide) ?_
    refine lv_goto (tgt := 19) hx hb dX4_timesAhead_15 (by decide) ?_
    exact hB19 σ p1 p2 (σ ((o + 3) + (p2 : Int32).toNatClampNeg) 1) (1 : Int32) _ _ _ hF hP hD hS (lv_sub hl [0, 1, 2] rfl)
theorem kX4_placeOf_f21 : Cond.fieldLink RX4 21 "LeastAsked$Province" "count" "I" ∈ wsX4_placeOf := by decide +kernel
theorem iX4_placeOf_X4 : ∀ w ∈ u_ws RX4 TX4 3, w ∈ wsX4_placeOf := fun _ h => List.mem_cons_of_mem _ (List.mem_append_left _ (List.mem_append_right _ h))
set_option maxHeartbeats 4000000 in
set_option maxRecDepth 100000 in
theorem CX4_placeOf (l : Launch) (D : va_G) (cI cS cP : ClassId) (ad : Nat → Nat) (A : Nat → Prop) (n : Nat) (σ σ' : zMem) (r0 : Int32) (o : Nat) (p1 : Int32) (ho : zk o = 4) (hF : FX4_placeOf n o σ p1 = some (r0, σ')) : Met l yX4_placeOf wsX4_placeOf ({ frames := 2, cells := 0, slots := 0, locals := 44 } : Room) (va_Pc [.ref (ad o), .int p1] (zB (zx cI cS cP ad) 41 ad D (zty cI cS cP) A σ)) (va_Qi (fun r u => r = r0 ∧ u = σ') (zB (zx cI cS cP ad) 41 ad D (zty cI cS cP) A) A) 0 0 A := by
  refine Met.ofW (cc := cX4_placeOf) (maxL := 4) (ret := (some .int)) (by decide) rfl ?_
  intro p e s m args below meth c s₁ B hml hv
  obtain ⟨rfl, hP, hK, hD, hN⟩ := hv
  have hx := B.exec
  have hb := B.bytes
  have hr := B.returns
  have hts := atoms_spec (ws := wsX4_placeOf) B.pre
  have hown : s.vm.findClass RX4 = some m.cls := findClass_of_methodNamed B.named
  have hlocks := B.notSynchronized
  have hS : va_S A s.heap s.heap [] := va_S.rf
  have hl := lv_entry ([.ref (ad o), .int p1]) (n := 4) (Nat.le_of_ble_eq_true rfl)
  rw [lg_entry_eq]
  generalize (lg_sl ([.ref (ad o), .int p1]) ++ List.replicate (4 - (lg_sl ([.ref (ad o), .int p1])).length) Slot.unset).toArray = ls at hl ⊢
  have hl : lv_has ls 4 [(0, .ref (ad o)), (1, .int p1)] := hl
  clear B
  have hB4 : ∀ (f4 : Nat) (σ : zMem) (l1 : Int32) (l2 : Int32) (l3 : Int32), ∀ (H : Heap) (locs : List Loc) (ls : Array Slot), zlp (LX4_placeOf_4 n o) f4 (σ, l1, l2, l3) = some (r0, σ') → va_P D vwCl (zW (zx cI cS cP ad) 41 ad σ) H → va_D A (zW (zx cI cS cP ad) 41 ad σ) → va_S A s.heap H locs → lv_has ls 4 [(0, .ref (ad o)), (1, .int l1), (2, .int l2), (3, .int l3)] → W p l e (headSpec wsX4_placeOf ({ frames := 2, cells := 0, slots := 0, locals := 44 } : Room)).room s m ([.ref (ad o), .int p1] : List Value).toArray below meth c H locs 0 0 (MQ below (va_Qi (fun r u => r = r0 ∧ u = σ') (zB (zx cI cS cP ad) 41 ad D (zty cI cS cP) A) A) ([.ref (ad o), .int p1] : List Value).toArray s 0 0 A) (F0 m 4 ls []) := by
    intro f4
    induction f4 with
    | zero => intro σ l1 l2 l3 H locs ls hF hP hD hS hl; exact (zlp_0 hF).elim
    | succ f4 ih4 =>
      intro σ l1 l2 l3 H locs ls hF hP hD hS hl
      have hF : LBX4_placeOf_4 n o  (zlp (LX4_placeOf_4 n o) f4) σ l1 l2 l3 = some (r0, σ') := hF
      unfold LBX4_placeOf_4 at hF
      refine lv_iload_n hx hb dX4_placeOf_4 rfl (lv_at hl 3 rfl) ?_
      refine lv_aload_n hx hb dX4_placeOf_5 rfl (lv_at hl 0 rfl) ?_
      refine z_get (ci := 4) (C := RX4) (T := TX4) (N := 3) hx hb hts iX4_placeOf_X4 hown hK hP (zk_lt ho (by decide)) (zx_4 ho) rfl 2 (by decide) kX4_placeOf_f21 rfl (v := .int (σ o 2)) rfl dX4_placeOf_6 ?_
      refine lv_icmp_ge (tgt := 30) hx hb dX4_placeOf_9 (by decide) (fun b1 => ?_) (fun b1 => ?_)
      · have hF := zif_t b1 hF
        refine lv_iload_n hx hb dX4_placeOf_30 rfl (lv_at hl 2 rfl) ?_
        exact z_iret hx hb hr hlocks hN hK hP hD hS hF dX4_placeOf_31
      · have hF := zif_f b1 hF
        refine lv_aload_n hx hb dX4_placeOf_12 rfl (lv_at hl 0 rfl) ?_
        refine lv_iload_n hx hb dX4_placeOf_13 rfl (lv_at hl 3 rfl) ?_
        refine lv_iload_n hx hb dX4_placeOf_14 rfl (lv_at hl 1 rfl) ?_
        obtain ⟨r3, σ2, hC4, hF⟩ := zbd_inv hF
        refine z_calli (va_runV (As := [.int l3, .int l1]) (rest := []) ⟨hx, hb, hml, hown, hts⟩ (CX4_timesAhead l D cI cS cP ad A n σ σ2 r3 o l3 l1 ho hC4) (cwV 2 hts gX4_placeOf_X4_timesAhead rfl rfl rfl (by decide +kernel) ⟨Nat.le_of_ble_eq_true rfl, Nat.le_of_ble_eq_true rfl⟩) (z_preV hN hK hP hD (zk_lt ho (by decide)) (zx_4 ho) rfl) rfl rfl hl.1 rfl (lv_room (Nat.le_of_ble_eq_true rfl)) dX4_placeOf_15 ⟨Nat.zero_le _, Nat.zero_le _⟩) hS (fun H locs hP hD hS => ?_)
        refine lv_if_le (tgt := 24) hx hb dX4_placeOf_18 (by decide) (fun b5 => ?_) (fun b5 => ?_)
        · have hF := zif_t b5 hF
          refine lv_iinc (v := (l3 + (1 : Int32))) (lv' := [(3, .int (l3 + (1 : Int32))), (0, .ref (ad o)), (1, .int l1), (2, .int l2)]) hx hb dX4_placeOf_24 hl (k := 3) rfl rfl (by decide) rfl (fun ls hl => ?_)
          refine lv_goto (tgt := 4) hx hb dX4_placeOf_27 (by decide) ?_
          exact ih4 σ2 l1 l2 (l3 + (1 : Int32)) _ _ _ hF hP hD hS (lv_sub hl [1, 2, 3, 0] rfl)
        · have hF := zif_f b5 hF
          refine lv_iinc (v := (l2 + (1 : Int32))) (lv' := [(2, .int (l2 + (1 : Int32))), (0, .ref (ad o)), (1, .int l1), (3, .int l3)]) hx hb dX4_placeOf_21 hl (k := 2) rfl rfl (by decide) rfl (fun ls hl => ?_)
          refine lv_iinc (v := (l3 + (1 : Int32))) (lv' := [(3, .int (l3 + (1 : Int32))), (2, .int (l2 + (1 : Int32))), (0, .ref (ad o)), (1, .int l1)]) hx hb dX4_placeOf_24 hl (k := 3) rfl rfl (by decide) rfl (fun ls hl => ?_)
          refine lv_goto (tgt := 4) hx hb dX4_placeOf_27 (by decide) ?_
          exact ih4 σ2 l1 (l2 + (1 : Int32)) (l3 + (1 : Int32)) _ _ _ hF hP hD hS (lv_sub hl [2, 3, 1, 0] rfl)
  unfold FX4_placeOf at hF
  refine lv_iconst (v := (0 : Int32)) hx hb dX4_placeOf_0 (by decide) ?_
  refine lv_istore_n (lv' := [(2, .int (0 : Int32)), (0, .ref (ad o)), (1, .int p1)]) hx hb dX4_placeOf_1 rfl hl (by decide) rfl (fun ls hl => ?_)
  refine lv_iconst (v := (0 : Int32)) hx hb dX4_placeOf_2 (by decide) ?_
  refine lv_istore_n (lv' := [(3, .int (0 : Int32)), (2, .int (0 : Int32)), (0, .ref (ad o)), (1, .int p1)]) hx hb dX4_placeOf_3 rfl hl (by decide) rfl (fun ls hl => ?_)
  exact hB4 n σ p1 (0 : Int32) (0 : Int32) _ _ _ hF hP hD hS (lv_sub hl [2, 3, 1, 0] rfl)
theorem kX4_atPlace_f21 : Cond.fieldLink RX4 21 "LeastAsked$Province" "count" "I" ∈ wsX4_atPlace := by decide +kernel
theorem iX4_atPlace_X4 : ∀ w ∈ u_ws RX4 TX4 3, w ∈ wsX4_atPlace := fun _ h => List.mem_cons_of_mem _ (List.mem_append_left _ (List.mem_append_right _ h))
set_option maxHeartbeats 4000000 in
set_option maxRecDepth 100000 in
theorem CX4_atPlace (l : Launch) (D : va_G) (cI cS cP : ClassId) (ad : Nat → Nat) (A : Nat → Prop) (n : Nat) (σ σ' : zMem) (r0 : Int32) (o : Nat) (p1 : Int32) (ho : zk o = 4) (hF : FX4_atPlace n o σ p1 = some (r0, σ')) : Met l yX4_atPlace wsX4_atPlace ({ frames := 3, cells := 0, slots := 0, locals := 67 } : Room) (va_Pc [.ref (ad o), .int p1] (zB (zx cI cS cP ad) 41 ad D (zty cI cS cP) A σ)) (va_Qi (fun r u => r = r0 ∧ u = σ') (zB (zx cI cS cP ad) 41 ad D (zty cI cS cP) A) A) 0 0 A := by
  refine Met.ofW (cc := cX4_atPlace) (maxL := 3) (ret := (some .int)) (by decide) rfl ?_
  intro p e s m args below meth c s₁ B hml hv
  obtain ⟨rfl, hP, hK, hD, hN⟩ := hv
  have hx := B.exec
  have hb := B.bytes
  have hr := B.returns
  have hts := atoms_spec (ws := wsX4_atPlace) B.pre
  have hown : s.vm.findClass RX4 = some m.cls := findClass_of_methodNamed B.named
  have hlocks := B.notSynchronized
  have hS : va_S A s.heap s.heap [] := va_S.rf
  have hl := lv_entry ([.ref (ad o), .int p1]) (n := 3) (Nat.le_of_ble_eq_true rfl)
  rw [lg_entry_eq]
  generalize (lg_sl ([.ref (ad o), .int p1]) ++ List.replicate (3 - (lg_sl ([.ref (ad o), .int p1])).length) Slot.unset).toArray = ls at hl ⊢
  have hl : lv_has ls 3 [(0, .ref (ad o)), (1, .int p1)] := hl
  clear B
  have hB2 : ∀ (f2 : Nat) (σ : zMem) (l1 : Int32) (l2 : Int32), ∀ (H : Heap) (locs : List Loc) (ls : Array Slot), zlp (LX4_atPlace_2 n o) f2 (σ, l1, l2) = some (r0, σ') → va_P D vwCl (zW (zx cI cS cP ad) 41 ad σ) H → va_D A (zW (zx cI cS cP ad) 41 ad σ) → va_S A s.heap H locs → lv_has ls 3 [(0, .ref (ad o)), (1, .int l1), (2, .int l2)] → W p l e (headSpec wsX4_atPlace ({ frames := 3, cells := 0, slots := 0, locals := 67 } : Room)).room s m ([.ref (ad o), .int p1] : List Value).toArray below meth c H locs 0 0 (MQ below (va_Qi (fun r u => r = r0 ∧ u = σ') (zB (zx cI cS cP ad) 41 ad D (zty cI cS cP) A) A) ([.ref (ad o), .int p1] : List Value).toArray s 0 0 A) (F0 m 2 ls []) := by
    intro f2
    induction f2 with
    | zero => intro σ l1 l2 H locs ls hF hP hD hS hl; exact (zlp_0 hF).elim
    | succ f2 ih2 =>
      intro σ l1 l2 H locs ls hF hP hD hS hl
      have hF : LBX4_atPlace_2 n o  (zlp (LX4_atPlace_2 n o) f2) σ l1 l2 = some (r0, σ') := hF
      unfold LBX4_atPlace_2 at hF
      refine lv_iload_n hx hb dX4_atPlace_2 rfl (lv_at hl 2 rfl) ?_
      refine lv_aload_n hx hb dX4_atPlace_3 rfl (lv_at hl 0 rfl) ?_
      refine z_get (ci := 4) (C := RX4) (T := TX4) (N := 3) hx hb hts iX4_atPlace_X4 hown hK hP (zk_lt ho (by decide)) (zx_4 ho) rfl 2 (by decide) kX4_atPlace_f21 rfl (v := .int (σ o 2)) rfl dX4_atPlace_4 ?_
      refine lv_icmp_ge (tgt := 27) hx hb dX4_atPlace_7 (by decide) (fun b1 => ?_) (fun b1 => ?_)
      · have hF := zif_t b1 hF
        refine lv_bipush (v := (-9 : Int32)) hx hb dX4_atPlace_27 (by decide) ?_
        exact z_iret hx hb hr hlocks hN hK hP hD hS hF dX4_atPlace_29
      · have hF := zif_f b1 hF
        refine lv_aload_n hx hb dX4_atPlace_10 rfl (lv_at hl 0 rfl) ?_
        refine lv_iload_n hx hb dX4_atPlace_11 rfl (lv_at hl 2 rfl) ?_
        obtain ⟨r3, σ2, hC4, hF⟩ := zbd_inv hF
        refine z_calli (va_runV (As := [.int l2]) (rest := []) ⟨hx, hb, hml, hown, hts⟩ (CX4_placeOf l D cI cS cP ad A n σ σ2 r3 o l2 ho hC4) (cwV 1 hts gX4_atPlace_X4_placeOf rfl rfl rfl (by decide +kernel) ⟨Nat.le_of_ble_eq_true rfl, Nat.le_of_ble_eq_true rfl⟩) (z_preV hN hK hP hD (zk_lt ho (by decide)) (zx_4 ho) rfl) rfl rfl hl.1 rfl (lv_room (Nat.le_of_ble_eq_true rfl)) dX4_atPlace_12 ⟨Nat.zero_le _, Nat.zero_le _⟩) hS (fun H locs hP hD hS => ?_)
        refine lv_iload_n hx hb dX4_atPlace_15 rfl (lv_at hl 1 rfl) ?_
        refine lv_icmp_ne (tgt := 21) hx hb dX4_atPlace_16 (by decide) (fun b5 => ?_) (fun b5 => ?_)
        · have hF := zif_f b5 hF
          refine lv_iinc (v := (l2 + (1 : Int32))) (lv' := [(2, .int (l2 + (1 : Int32))), (0, .ref (ad o)), (1, .int l1)]) hx hb dX4_atPlace_21 hl (k := 2) rfl rfl (by decide) rfl (fun ls hl => ?_)
          refine lv_goto (tgt := 2) hx hb dX4_atPlace_24 (by decide) ?_
          exact ih2 σ2 l1 (l2 + (1 : Int32)) _ _ _ hF hP hD hS (lv_sub hl [1, 2, 0] rfl)
        · have hF := zif_t b5 hF
          refine lv_iload_n hx hb dX4_atPlace_19 rfl (lv_at hl 2 rfl) ?_
          exact z_iret hx hb hr hlocks hN hK hP hD hS hF dX4_atPlace_20
  unfold FX4_atPlace at hF
  refine lv_iconst (v := (0 : Int32)) hx hb dX4_atPlace_0 (by decide) ?_
  refine lv_istore_n (lv' := [(2, .int (0 : Int32)), (0, .ref (ad o)), (1, .int p1)]) hx hb dX4_atPlace_1 rfl hl (by decide) rfl (fun ls hl => ?_)
  exact hB2 n σ p1 (0 : Int32) _ _ _ hF hP hD hS (lv_sub hl [1, 2, 0] rfl)
theorem kX4_questionsAheadOf_f21 : Cond.fieldLink RX4 21 "LeastAsked$Province" "count" "I" ∈ wsX4_questionsAheadOf := by decide +kernel
theorem iX4_questionsAheadOf_X4 : ∀ w ∈ u_ws RX4 TX4 3, w ∈ wsX4_questionsAheadOf := fun _ h => List.mem_cons_of_mem _ (List.mem_append_left _ (List.mem_append_right _ h))
set_option maxHeartbeats 4000000 in
set_option maxRecDepth 100000 in
theorem CX4_questionsAheadOf (l : Launch) (D : va_G) (cI cS cP : ClassId) (ad : Nat → Nat) (A : Nat → Prop) (n : Nat) (σ σ' : zMem) (r0 : Int32) (o : Nat) (p1 : Int32) (ho : zk o = 4) (hF : FX4_questionsAheadOf n o σ p1 = some (r0, σ')) : Met l yX4_questionsAheadOf wsX4_questionsAheadOf ({ frames := 2, cells := 0, slots := 0, locals := 44 } : Room) (va_Pc [.ref (ad o), .int p1] (zB (zx cI cS cP ad) 41 ad D (zty cI cS cP) A σ)) (va_Qi (fun r u => r = r0 ∧ u = σ') (zB (zx cI cS cP ad) 41 ad D (zty cI cS cP) A) A) 0 0 A := by
  refine Met.ofW (cc := cX4_questionsAheadOf) (maxL := 4) (ret := (some .int)) (by decide) rfl ?_
  intro p e s m args below meth c s₁ B hml hv
  obtain ⟨rfl, hP, hK, hD, hN⟩ := hv
  have hx := B.exec
  have hb := B.bytes
  have hr := B.returns
  have hts := atoms_spec (ws := wsX4_questionsAheadOf) B.pre
  have hown : s.vm.findClass RX4 = some m.cls := findClass_of_methodNamed B.named
  have hlocks := B.notSynchronized
  have hS : va_S A s.heap s.heap [] := va_S.rf
  have hl := lv_entry ([.ref (ad o), .int p1]) (n := 4) (Nat.le_of_ble_eq_true rfl)
  rw [lg_entry_eq]
  generalize (lg_sl ([.ref (ad o), .int p1]) ++ List.replicate (4 - (lg_sl ([.ref (ad o), .int p1])).length) Slot.unset).toArray = ls at hl ⊢
  have hl : lv_has ls 4 [(0, .ref (ad o)), (1, .int p1)] := hl
  clear B
  have hB4 : ∀ (f4 : Nat) (σ : zMem) (l1 : Int32) (l2 : Int32) (l3 : Int32), ∀ (H : Heap) (locs : List Loc) (ls : Array Slot), zlp (LX4_questionsAheadOf_4 n o) f4 (σ, l1, l2, l3) = some (r0, σ') → va_P D vwCl (zW (zx cI cS cP ad) 41 ad σ) H → va_D A (zW (zx cI cS cP ad) 41 ad σ) → va_S A s.heap H locs → lv_has ls 4 [(0, .ref (ad o)), (1, .int l1), (2, .int l2), (3, .int l3)] → W p l e (headSpec wsX4_questionsAheadOf ({ frames := 2, cells := 0, slots := 0, locals := 44 } : Room)).room s m ([.ref (ad o), .int p1] : List Value).toArray below meth c H locs 0 0 (MQ below (va_Qi (fun r u => r = r0 ∧ u = σ') (zB (zx cI cS cP ad) 41 ad D (zty cI cS cP) A) A) ([.ref (ad o), .int p1] : List Value).toArray s 0 0 A) (F0 m 4 ls []) := by
    intro f4
    induction f4 with
    | zero => intro σ l1 l2 l3 H locs ls hF hP hD hS hl; exact (zlp_0 hF).elim
    | succ f4 ih4 =>
      intro σ l1 l2 l3 H locs ls hF hP hD hS hl
      have hF : LBX4_questionsAheadOf_4 n o  (zlp (LX4_questionsAheadOf_4 n o) f4) σ l1 l2 l3 = some (r0, σ') := hF
      unfold LBX4_questionsAheadOf_4 at hF
      refine lv_iload_n hx hb dX4_questionsAheadOf_4 rfl (lv_at hl 3 rfl) ?_
      refine lv_aload_n hx hb dX4_questionsAheadOf_5 rfl (lv_at hl 0 rfl) ?_
      refine z_get (ci := 4) (C := RX4) (T := TX4) (N := 3) hx hb hts iX4_questionsAheadOf_X4 hown hK hP (zk_lt ho (by decide)) (zx_4 ho) rfl 2 (by decide) kX4_questionsAheadOf_f21 rfl (v := .int (σ o 2)) rfl dX4_questionsAheadOf_6 ?_
      refine lv_icmp_ge (tgt := 27) hx hb dX4_questionsAheadOf_9 (by decide) (fun b1 => ?_) (fun b1 => ?_)
      · have hF := zif_t b1 hF
        refine lv_iload_n hx hb dX4_questionsAheadOf_27 rfl (lv_at hl 2 rfl) ?_
        exact z_iret hx hb hr hlocks hN hK hP hD hS hF dX4_questionsAheadOf_28
      · have hF := zif_f b1 hF
        refine lv_iload_n hx hb dX4_questionsAheadOf_12 rfl (lv_at hl 2 rfl) ?_
        refine lv_aload_n hx hb dX4_questionsAheadOf_13 rfl (lv_at hl 0 rfl) ?_
        refine lv_iload_n hx hb dX4_questionsAheadOf_14 rfl (lv_at hl 3 rfl) ?_
        refine lv_iload_n hx hb dX4_questionsAheadOf_15 rfl (lv_at hl 1 rfl) ?_
        obtain ⟨r3, σ2, hC4, hF⟩ := zbd_inv hF
        refine z_calli (va_runV (As := [.int l3, .int l1]) (rest := [.int l2]) ⟨hx, hb, hml, hown, hts⟩ (CX4_timesAhead l D cI cS cP ad A n σ σ2 r3 o l3 l1 ho hC4) (cwV 2 hts gX4_questionsAheadOf_X4_timesAhead rfl rfl rfl (by decide +kernel) ⟨Nat.le_of_ble_eq_true rfl, Nat.le_of_ble_eq_true rfl⟩) (z_preV hN hK hP hD (zk_lt ho (by decide)) (zx_4 ho) rfl) rfl rfl hl.1 rfl (lv_room (Nat.le_of_ble_eq_true rfl)) dX4_questionsAheadOf_16 ⟨Nat.zero_le _, Nat.zero_le _⟩) hS (fun H locs hP hD hS => ?_)
        refine lv_iadd hx hb dX4_questionsAheadOf_19 ?_
        refine lv_istore_n (lv' := [(2, .int (l2 + r3)), (0, .ref (ad o)), (1, .int l1), (3, .int l3)]) hx hb dX4_questionsAheadOf_20 rfl hl (by decide) rfl (fun ls hl => ?_)
        refine lv_iinc (v := (l3 + (1 : Int32))) (lv' := [(3, .int (l3 + (1 : Int32))), (2, .int (l2 + r3)), (0, .ref (ad o)), (1, .int l1)]) hx hb dX4_questionsAheadOf_21 hl (k := 3) rfl rfl (by decide) rfl (fun ls hl => ?_)
        refine lv_goto (tgt := 4) hx hb dX4_questionsAheadOf_24 (by decide) ?_
        exact ih4 σ2 l1 (l2 + r3) (l3 + (1 : Int32)) _ _ _ hF hP hD hS (lv_sub hl [2, 3, 1, 0] rfl)
  unfold FX4_questionsAheadOf at hF
  refine lv_iconst (v := (0 : Int32)) hx hb dX4_questionsAheadOf_0 (by decide) ?_
  refine lv_istore_n (lv' := [(2, .int (0 : Int32)), (0, .ref (ad o)), (1, .int p1)]) hx hb dX4_questionsAheadOf_1 rfl hl (by decide) rfl (fun ls hl => ?_)
  refine lv_iconst (v := (0 : Int32)) hx hb dX4_questionsAheadOf_2 (by decide) ?_
  refine lv_istore_n (lv' := [(3, .int (0 : Int32)), (2, .int (0 : Int32)), (0, .ref (ad o)), (1, .int p1)]) hx hb dX4_questionsAheadOf_3 rfl hl (by decide) rfl (fun ls hl => ?_)
  exact hB4 n σ p1 (0 : Int32) (0 : Int32) _ _ _ hF hP hD hS (lv_sub hl [2, 3, 1, 0] rfl)
theorem kX4_feintsTillKnown_f21 : Cond.fieldLink RX4 21 "LeastAsked$Province" "count" "I" ∈ wsX4_feintsTillKnown := by decide +kernel
theorem kX4_feintsTillKnown_f17 : Cond.fieldLink RX4 17 "LeastAsked$Province" "people" "[LLeastAsked$Person;" ∈ wsX4_feintsTillKnown := by decide +kernel
theorem kX4_feintsTillKnown_m76 : Cond.methodLink RX4 76 Lib.Math.min.name ∈ wsX4_feintsTillKnown := by decide +kernel
theorem kX4_feintsTillKnown_s76 : Cond.static Lib.Math.min.name ∈ wsX4_feintsTillKnown := by decide +kernel
theorem kX4_feintsTillKnown_iM : Cond.initialized "java/lang/Math" ∈ wsX4_feintsTillKnown := by decide +kernel
theorem kX4_feintsTillKnown_c76 : Cond.code Lib.Math.min.name Lib.Math.min.code 2 (some .int) ∈ wsX4_feintsTillKnown := by decide +kernel
theorem iX4_feintsTillKnown_X4 : ∀ w ∈ u_ws RX4 TX4 3, w ∈ wsX4_feintsTillKnown := fun _ h => List.mem_cons_of_mem _ (List.mem_append_left _ (List.mem_append_right _ h))
set_option maxHeartbeats 4000000 in
set_option maxRecDepth 100000 in
theorem CX4_feintsTillKnown (l : Launch) (D : va_G) (cI cS cP : ClassId) (ad : Nat → Nat) (A : Nat → Prop) (n : Nat) (σ σ' : zMem) (r0 : Int32) (o : Nat) (p1 : Int32) (ho : zk o = 4) (hF : FX4_feintsTillKnown n o σ p1 = some (r0, σ')) : Met l yX4_feintsTillKnown wsX4_feintsTillKnown ({ frames := 3, cells := 0, slots := 0, locals := 67 } : Room) (va_Pc [.ref (ad o), .int p1] (zB (zx cI cS cP ad) 41 ad D (zty cI cS cP) A σ)) (va_Qi (fun r u => r = r0 ∧ u = σ') (zB (zx cI cS cP ad) 41 ad D (zty cI cS cP) A) A) 0 0 A := by
  refine Met.ofW (cc := cX4_feintsTillKnown) (maxL := 5) (ret := (some .int)) (by decide) rfl ?_
  intro p e s m args below meth c s₁ B hml hv
  obtain ⟨rfl, hP, hK, hD, hN⟩ := hv
  have hx := B.exec
  have hb := B.bytes
  have hr := B.returns
  have hts := atoms_spec (ws := wsX4_feintsTillKnown) B.pre
  have hown : s.vm.findClass RX4 = some m.cls := findClass_of_methodNamed B.named
  have hlocks := B.notSynchronized
  have hS : va_S A s.heap s.heap [] := va_S.rf
  have hl := lv_entry ([.ref (ad o), .int p1]) (n := 5) (Nat.le_of_ble_eq_true rfl)
  rw [lg_entry_eq]
  generalize (lg_sl ([.ref (ad o), .int p1]) ++ List.replicate (5 - (lg_sl ([.ref (ad o), .int p1])).length) Slot.unset).toArray = ls at hl ⊢
  have hl : lv_has ls 5 [(0, .ref (ad o)), (1, .int p1)] := hl
  clear B
  have hB5 : ∀ (f5 : Nat) (σ : zMem) (l1 : Int32) (l2 : Int32) (l3 : Int32), ∀ (H : Heap) (locs : List Loc) (ls : Array Slot), zlp (LX4_feintsTillKnown_5 n o) f5 (σ, l1, l2, l3) = some (r0, σ') → va_P D vwCl (zW (zx cI cS cP ad) 41 ad σ) H → va_D A (zW (zx cI cS cP ad) 41 ad σ) → va_S A s.heap H locs → lv_has ls 5 [(0, .ref (ad o)), (1, .int l1), (2, .int l2), (3, .int l3)] → W p l e (headSpec wsX4_feintsTillKnown ({ frames := 3, cells := 0, slots := 0, locals := 67 } : Room)).room s m ([.ref (ad o), .int p1] : List Value).toArray below meth c H locs 0 0 (MQ below (va_Qi (fun r u => r = r0 ∧ u = σ') (zB (zx cI cS cP ad) 41 ad D (zty cI cS cP) A) A) ([.ref (ad o), .int p1] : List Value).toArray s 0 0 A) (F0 m 5 ls []) := by
    intro f5
    induction f5 with
    | zero => intro σ l1 l2 l3 H locs ls hF hP hD hS hl; exact (zlp_0 hF).elim
    | succ f5 ih5 =>
      intro σ l1 l2 l3 H locs ls hF hP hD hS hl
      have hF : LBX4_feintsTillKnown_5 n o  (zlp (LX4_feintsTillKnown_5 n o) f5) σ l1 l2 l3 = some (r0, σ') := hF
      unfold LBX4_feintsTillKnown_5 at hF
      refine lv_iload_n hx hb dX4_feintsTillKnown_5 rfl (lv_at hl 3 rfl) ?_
      refine lv_aload_n hx hb dX4_feintsTillKnown_6 rfl (lv_at hl 0 rfl) ?_
      refine z_get (ci := 4) (C := RX4) (T := TX4) (N := 3) hx hb hts iX4_feintsTillKnown_X4 hown hK hP (zk_lt ho (by decide)) (zx_4 ho) rfl 2 (by decide) kX4_feintsTillKnown_f21 rfl (v := .int (σ o 2)) rfl dX4_feintsTillKnown_7 ?_
      refine lv_icmp_ge (tgt := 57) hx hb dX4_feintsTillKnown_10 (by decide) (fun b1 => ?_) (fun b1 => ?_)
      · have hF := zif_t b1 hF
        refine lv_iload_n hx hb dX4_feintsTillKnown_57 rfl (lv_at hl 2 rfl) ?_
        exact z_iret hx hb hr hlocks hN hK hP hD hS hF dX4_feintsTillKnown_58
      · have hF := zif_f b1 hF
        refine lv_aload_n hx hb dX4_feintsTillKnown_13 rfl (lv_at hl 0 rfl) ?_
        refine z_get (ci := 4) (C := RX4) (T := TX4) (N := 3) hx hb hts iX4_feintsTillKnown_X4 hown hK hP (zk_lt ho (by decide)) (zx_4 ho) rfl 1 (by decide) kX4_feintsTillKnown_f17 rfl (v := .ref (ad (o + 2))) rfl dX4_feintsTillKnown_14 ?_
        refine lv_iload_n hx hb dX4_feintsTillKnown_17 rfl (lv_at hl 3 rfl) ?_
        obtain ⟨g2, hF⟩ := zgd_inv hF
        refine z_aldq hx hb hK hP 2 (zk_lt (zk_4p ho) (by decide)) (zx_22 (zk_4p ho)) rfl g2 dX4_feintsTillKnown_18 ?_
        refine lv_iload_n hx hb dX4_feintsTillKnown_19 rfl (lv_at hl 1 rfl) ?_
        obtain ⟨r4, σ3, hC5, hF⟩ := zbd_inv hF
        refine z_calli (va_runV (As := [.int l1]) (rest := []) ⟨hx, hb, hml, hown, hts⟩ (CX2_isKnowing l D cI cS cP ad A n σ σ3 r4 ((o + 3) + (l3 : Int32).toNatClampNeg) l1 (zk_22p (zk_4p ho) g2) hC5) (cwV 1 hts gX4_feintsTillKnown_X2_isKnowing rfl rfl rfl (by decide +kernel) ⟨Nat.le_of_ble_eq_true rfl, Nat.le_of_ble_eq_true rfl⟩) (z_preV hN hK hP hD (zk_lt (zk_22p (zk_4p ho) g2) (by decide)) (zx_2 (zk_22p (zk_4p ho) g2)) rfl) rfl rfl hl.1 rfl (lv_room (Nat.le_of_ble_eq_true rfl)) dX4_feintsTillKnown_20 ⟨Nat.zero_le _, Nat.zero_le _⟩) hS (fun H locs hP hD hS => ?_)
        refine lv_if_eq (tgt := 51) hx hb dX4_feintsTillKnown_23 (by decide) (fun b6 => ?_) (fun b6 => ?_)
        · have hF := zif_t b6 hF
          refine lv_iinc (v := (l3 + (1 : Int32))) (lv' := [(3, .int (l3 + (1 : Int32))), (0, .ref (ad o)), (1, .int l1), (2, .int l2)]) hx hb dX4_feintsTillKnown_51 hl (k := 3) rfl rfl (by decide) rfl (fun ls hl => ?_)
          refine lv_goto (tgt := 5) hx hb dX4_feintsTillKnown_54 (by decide) ?_
          exact ih5 σ3 l1 l2 (l3 + (1 : Int32)) _ _ _ hF hP hD hS (lv_sub hl [1, 2, 3, 0] rfl)
        · have hF := zif_f b6 hF
          refine lv_aload_n hx hb dX4_feintsTillKnown_26 rfl (lv_at hl 0 rfl) ?_
          refine lv_iload_n hx hb dX4_feintsTillKnown_27 rfl (lv_at hl 3 rfl) ?_
          obtain ⟨r8, σ7, hC9, hF⟩ := zbd_inv hF
          refine z_calli (va_runV (As := [.int l3]) (rest := []) ⟨hx, hb, hml, hown, hts⟩ (CX4_questionsAheadOf l D cI cS cP ad A n σ3 σ7 r8 o l3 ho hC9) (cwV 1 hts gX4_feintsTillKnown_X4_questionsAheadOf rfl rfl rfl (by decide +kernel) ⟨Nat.le_of_ble_eq_true rfl, Nat.le_of_ble_eq_true rfl⟩) (z_preV hN hK hP hD (zk_lt ho (by decide)) (zx_4 ho) rfl) rfl rfl hl.1 rfl (lv_room (Nat.le_of_ble_eq_true rfl)) dX4_feintsTillKnown_28 ⟨Nat.zero_le _, Nat.zero_le _⟩) hS (fun H locs hP hD hS => ?_)
          refine lv_istore (lv' := [(4, .int r8), (0, .ref (ad o)), (1, .int l1), (2, .int l2), (3, .int l3)]) hx hb dX4_feintsTillKnown_31 hl (by decide) rfl (fun ls hl => ?_)
          refine lv_iload_n hx hb dX4_feintsTillKnown_33 rfl (lv_at hl 3 rfl) ?_
          refine lv_bipush (v := (-9 : Int32)) hx hb dX4_feintsTillKnown_34 (by decide) ?_
          refine lv_icmp_ne (tgt := 44) hx hb dX4_feintsTillKnown_36 (by decide) (fun b10 => ?_) (fun b10 => ?_)
          · have hF := zif_f b10 hF
            refine lv_iload_n hx hb dX4_feintsTillKnown_44 rfl (lv_at hl 3 rfl) ?_
            refine lv_iload hx hb dX4_feintsTillKnown_45 (lv_at hl 0 rfl) ?_
            refine va_mmin hx hb (hml.trans hl.1.symm) hown (hts _ kX4_feintsTillKnown_m76) (hts _ kX4_feintsTillKnown_s76) (hts _ kX4_feintsTillKnown_iM) (hts _ kX4_feintsTillKnown_c76) (Nat.le_of_ble_eq_true rfl) (Nat.le_of_ble_eq_true rfl) (Nat.zero_le _) (Nat.zero_le _) dX4_feintsTillKnown_47 ?_
            refine lv_istore_n (lv' := [(2, .int (if r8 < l2 then r8 else l2)), (4, .int r8), (0, .ref (ad o)), (1, .int l1), (3, .int l3)]) hx hb dX4_feintsTillKnown_50 rfl hl (by decide) rfl (fun ls hl => ?_)
            refine lv_iinc (v := (l3 + (1 : Int32))) (lv' := [(3, .int (l3 + (1 : Int32))), (2, .int (if r8 < l2 then r8 else l2)), (4, .int r8), (0, .ref (ad o)), (1, .int l1)]) hx hb dX4_feintsTillKnown_51 hl (k := 4) rfl rfl (by decide) rfl (fun ls hl => ?_)
            refine lv_goto (tgt := 5) hx hb dX4_feintsTillKnown_54 (by decide) ?_
            exact ih5 σ7 l1 (if r8 < l2 then r8 else l2) (l3 + (1 : Int32)) _ _ _ hF hP hD hS (lv_sub hl [3, 4, 1, 0] rfl)
          · have hF := zif_t b10 hF
            refine lv_iload hx hb dX4_feintsTillKnown_39 (lv_at hl 0 rfl) ?_
            refine lv_goto (tgt := 50) hx hb dX4_feintsTillKnown_41 (by decide) ?_
            refine lv_istore_n (lv' := [(2, .int r8), (4, .int r8), (0, .ref (ad o)), (1, .int l1), (3, .int l3)]) hx hb dX4_feintsTillKnown_50 rfl hl (by decide) rfl (fun ls hl => ?_)
            refine lv_iinc (v := (l3 + (1 : Int32))) (lv' := [(3, .int (l3 + (1 : Int32))), (2, .int r8), (4, .int r8), (0, .ref (ad o)), (1, .int l1)]) hx hb dX4_feintsTillKnown_51 hl (k := 4) rfl rfl (by decide) rfl (fun ls hl => ?_)
            refine lv_goto (tgt := 5) hx hb dX4_feintsTillKnown_54 (by decide) ?_
            exact ih5 σ7 l1 r8 (l3 + (1 : Int32)) _ _ _ hF hP hD hS (lv_sub hl [3, 4, 1, 0] rfl)
  unfold FX4_feintsTillKnown at hF
  refine lv_bipush (v := (-9 : Int32)) hx hb dX4_feintsTillKnown_0 (by decide) ?_
  refine lv_istore_n (lv' := [(2, .int (-9 : Int32)), (0, .ref (ad o)), (1, .int p1)]) hx hb dX4_feintsTillKnown_2 rfl hl (by decide) rfl (fun ls hl => ?_)
  refine lv_iconst (v := (0 : Int32)) hx hb dX4_feintsTillKnown_3 (by decide) ?_
  refine lv_istore_n (lv' := [(3, .int (0 : Int32)), (2, .int (-9 : Int32)), (0, .ref (ad o)), (1, .int p1)]) hx hb dX4_feintsTillKnown_4 rfl hl (by decide) rfl (fun ls hl => ?_)
  exact hB5 n σ p1 (-9 : Int32) (0 : Int32) _ _ _ hF hP hD hS (lv_sub hl [2, 3, 1, 0] rfl)
theorem kX4_questionsTillEven_f21 : Cond.fieldLink RX4 21 "LeastAsked$Province" "count" "I" ∈ wsX4_questionsTillEven := by decide +kernel
theorem kX4_questionsTillEven_f17 : Cond.fieldLink RX4 17 "LeastAsked$Province" "people" "[LLeastAsked$Person;" ∈ wsX4_questionsTillEven := by decide +kernel
theorem kX4_questionsTillEven_f57 : Cond.fieldLink RX4 57 "LeastAsked$Person" "asked" "I" ∈ wsX4_questionsTillEven := by decide +kernel
theorem kX4_questionsTillEven_m68 : Cond.methodLink RX4 68 Lib.Math.max.name ∈ wsX4_questionsTillEven := by decide +kernel
theorem kX4_questionsTillEven_s68 : Cond.static Lib.Math.max.name ∈ wsX4_questionsTillEven := by decide +kernel
theorem kX4_questionsTillEven_iM : Cond.initialized "java/lang/Math" ∈ wsX4_questionsTillEven := by decide +kernel
theorem kX4_questionsTillEven_c68 : Cond.code Lib.Math.max.name Lib.Math.max.code 2 (some .int) ∈ wsX4_questionsTillEven := by decide +kernel
theorem iX4_questionsTillEven_X4 : ∀ w ∈ u_ws RX4 TX4 3, w ∈ wsX4_questionsTillEven := fun _ h => List.mem_cons_of_mem _ (List.mem_append_left _ (List.mem_append_right _ h))
theorem iX4_questionsTillEven_X2 : ∀ w ∈ u_ws RX2 TX2 4, w ∈ wsX4_questionsTillEven := fun _ h => List.mem_cons_of_mem _ (List.mem_append_right _ h)
set_option maxHeartbeats 4000000 in
set_option maxRecDepth 100000 in
theorem CX4_questionsTillEven (l : Launch) (D : va_G) (cI cS cP : ClassId) (ad : Nat → Nat) (A : Nat → Prop) (n : Nat) (σ σ' : zMem) (r0 : Int32) (o : Nat) (ho : zk o = 4) (hF : FX4_questionsTillEven n o σ = some (r0, σ')) : Met l yX4_questionsTillEven wsX4_questionsTillEven ({ frames := 1, cells := 0, slots := 0, locals := 21 } : Room) (va_Pc [.ref (ad o)] (zB (zx cI cS cP ad) 41 ad D (zty cI cS cP) A σ)) (va_Qi (fun r u => r = r0 ∧ u = σ') (zB (zx cI cS cP ad) 41 ad D (zty cI cS cP) A) A) 0 0 A := by
  refine Met.ofW (cc := cX4_questionsTillEven) (maxL := 4) (ret := (some .int)) (by decide) rfl ?_
  intro p e s m args below meth c s₁ B hml hv
  obtain ⟨rfl, hP, hK, hD, hN⟩ := hv
  have hx := B.exec
  have hb := B.bytes
  have hr := B.returns
  have hts := atoms_spec (ws := wsX4_questionsTillEven) B.pre
  have hown : s.vm.findClass RX4 = some m.cls := findClass_of_methodNamed B.named
  have hlocks := B.notSynchronized
  have hS : va_S A s.heap s.heap [] := va_S.rf
  have hl := lv_entry ([.ref (ad o)]) (n := 4) (Nat.le_of_ble_eq_true rfl)
  rw [lg_entry_eq]
  generalize (lg_sl ([.ref (ad o)]) ++ List.replicate (4 - (lg_sl ([.ref (ad o)])).length) Slot.unset).toArray = ls at hl ⊢
  have hl : lv_has ls 4 [(0, .ref (ad o))] := hl
  clear B
  have hB6 : ∀ (f6 : Nat) (σ : zMem) (l1 : Int32) (l2 : Int32) (l3 : Int32), ∀ (H : Heap) (locs : List Loc) (ls : Array Slot), zlp (LX4_questionsTillEven_6 n o) f6 (σ, l1, l2, l3) = some (r0, σ') → va_P D vwCl (zW (zx cI cS cP ad) 41 ad σ) H → va_D A (zW (zx cI cS cP ad) 41 ad σ) → va_S A s.heap H locs → lv_has ls 4 [(0, .ref (ad o)), (1, .int l1), (2, .int l2), (3, .int l3)] → W p l e (headSpec wsX4_questionsTillEven ({ frames := 1, cells := 0, slots := 0, locals := 21 } : Room)).room s m ([.ref (ad o)] : List Value).toArray below meth c H locs 0 0 (MQ below (va_Qi (fun r u => r = r0 ∧ u = σ') (zB (zx cI cS cP ad) 41 ad D (zty cI cS cP) A) A) ([.ref (ad o)] : List Value).toArray s 0 0 A) (F0 m 6 ls []) := by
    intro f6
    induction f6 with
    | zero => intro σ l1 l2 l3 H locs ls hF hP hD hS hl; exact (zlp_0 hF).elim
    | succ f6 ih6 =>
      intro σ l1 l2 l3 H locs ls hF hP hD hS hl
      have hF : LBX4_questionsTillEven_6 n o  (zlp (LX4_questionsTillEven_6 n o) f6) σ l1 l2 l3 = some (r0, σ') := hF
      unfold LBX4_questionsTillEven_6 at hF
      refine lv_iload_n hx hb dX4_questionsTillEven_6 rfl (lv_at hl 3 rfl) ?_
      refine lv_aload_n hx hb dX4_questionsTillEven_7 rfl (lv_at hl 0 rfl) ?_
      refine z_get (ci := 4) (C := RX4) (T := TX4) (N := 3) hx hb hts iX4_questionsTillEven_X4 hown hK hP (zk_lt ho (by decide)) (zx_4 ho) rfl 2 (by decide) kX4_questionsTillEven_f21 rfl (v := .int (σ o 2)) rfl dX4_questionsTillEven_8 ?_
      refine lv_icmp_ge (tgt := 46) hx hb dX4_questionsTillEven_11 (by decide) (fun b1 => ?_) (fun b1 => ?_)
      · have hF := zif_t b1 hF
        refine lv_iload_n hx hb dX4_questionsTillEven_46 rfl (lv_at hl 1 rfl) ?_
        refine lv_aload_n hx hb dX4_questionsTillEven_47 rfl (lv_at hl 0 rfl) ?_
        refine z_get (ci := 4) (C := RX4) (T := TX4) (N := 3) hx hb hts iX4_questionsTillEven_X4 hown hK hP (zk_lt ho (by decide)) (zx_4 ho) rfl 2 (by decide) kX4_questionsTillEven_f21 rfl (v := .int (σ o 2)) rfl dX4_questionsTillEven_48 ?_
        refine lv_imul hx hb dX4_questionsTillEven_51 ?_
        refine lv_iload_n hx hb dX4_questionsTillEven_52 rfl (lv_at hl 2 rfl) ?_
        refine lv_isub hx hb dX4_questionsTillEven_53 ?_
        exact z_iret hx hb hr hlocks hN hK hP hD hS hF dX4_questionsTillEven_54
      · have hF := zif_f b1 hF
        refine lv_iload_n hx hb dX4_questionsTillEven_14 rfl (lv_at hl 1 rfl) ?_
        refine lv_aload_n hx hb dX4_questionsTillEven_15 rfl (lv_at hl 0 rfl) ?_
        refine z_get (ci := 4) (C := RX4) (T := TX4) (N := 3) hx hb hts iX4_questionsTillEven_X4 hown hK hP (zk_lt ho (by decide)) (zx_4 ho) rfl 1 (by decide) kX4_questionsTillEven_f17 rfl (v := .ref (ad (o + 2))) rfl dX4_questionsTillEven_16 ?_
        refine lv_iload_n hx hb dX4_questionsTillEven_19 rfl (lv_at hl 3 rfl) ?_
        obtain ⟨g2, hF⟩ := zgd_inv hF
        refine z_aldq hx hb hK hP 2 (zk_lt (zk_4p ho) (by decide)) (zx_22 (zk_4p ho)) rfl g2 dX4_questionsTillEven_20 ?_
        refine z_get (ci := 2) (C := RX2) (T := TX2) (N := 4) hx hb hts iX4_questionsTillEven_X2 hown hK hP (zk_lt (zk_22p (zk_4p ho) g2) (by decide)) (zx_2 (zk_22p (zk_4p ho) g2)) rfl 1 (by decide) kX4_questionsTillEven_f57 rfl (v := .int (σ ((o + 3) + (l3 : Int32).toNatClampNeg) 1)) rfl dX4_questionsTillEven_21 ?_
        refine va_mmax hx hb (hml.trans hl.1.symm) hown (hts _ kX4_questionsTillEven_m68) (hts _ kX4_questionsTillEven_s68) (hts _ kX4_questionsTillEven_iM) (hts _ kX4_questionsTillEven_c68) (Nat.le_of_ble_eq_true rfl) (Nat.le_of_ble_eq_true rfl) (Nat.zero_le _) (Nat.zero_le _) dX4_questionsTillEven_24 ?_
        refine lv_istore_n (lv' := [(1, .int (if l1 < (σ ((o + 3) + (l3 : Int32).toNatClampNeg) 1) then (σ ((o + 3) + (l3 : Int32).toNatClampNeg) 1) else l1)), (0, .ref (ad o)), (2, .int l2), (3, .int l3)]) hx hb dX4_questionsTillEven_27 rfl hl (by decide) rfl (fun ls hl => ?_)
        refine lv_iload_n hx hb dX4_questionsTillEven_28 rfl (lv_at hl 2 rfl) ?_
        refine lv_aload_n hx hb dX4_questionsTillEven_29 rfl (lv_at hl 1 rfl) ?_
        refine z_get (ci := 4) (C := RX4) (T := TX4) (N := 3) hx hb hts iX4_questionsTillEven_X4 hown hK hP (zk_lt ho (by decide)) (zx_4 ho) rfl 1 (by decide) kX4_questionsTillEven_f17 rfl (v := .ref (ad (o + 2))) rfl dX4_questionsTillEven_30 ?_
        refine lv_iload_n hx hb dX4_questionsTillEven_33 rfl (lv_at hl 3 rfl) ?_
        obtain ⟨g3, hF⟩ := zgd_inv hF
        refine z_aldq hx hb hK hP 2 (zk_lt (zk_4p ho) (by decide)) (zx_22 (zk_4p ho)) rfl g3 dX4_questionsTillEven_34 ?_
        refine z_get (ci := 2) (C := RX2) (T := TX2) (N := 4) hx hb hts iX4_questionsTillEven_X2 hown hK hP (zk_lt (zk_22p (zk_4p ho) g3) (by decide)) (zx_2 (zk_22p (zk_4p ho) g3)) rfl 1 (by decide) kX4_questionsTillEven_f57 rfl (v := .int (σ ((o + 3) + (l3 : Int32).toNatClampNeg) 1)) rfl dX4_questionsTillEven_35 ?_
        refine lv_iadd hx hb dX4_questionsTillEven_38 ?_
        refine lv_istore_n (lv' := [(2, .int (l2 + (σ ((o + 3) + (l3 : Int32).toNatClampNeg) 1))), (1, .int (if l1 < (σ ((o + 3) + (l3 : Int32).toNatClampNeg) 1) then (σ ((o + 3) + (l3 : Int32).toNatClampNeg) 1) else l1)), (0, .ref (ad o)), (3, .int l3)]) hx hb dX4_questionsTillEven_39 rfl hl (by decide) rfl (fun ls hl => ?_)
        refine lv_iinc (v := (l3 + (1 : Int32))) (lv' := [(3, .int (l3 + (1 : Int32))), (2, .int (l2 + (σ ((o + 3) + (l3 : Int32).toNatClampNeg) 1))), (1, .int (if l1 < (σ ((o + 3) + (l3 : Int32).toNatClampNeg) 1) then (σ ((o + 3) + (l3 : Int32).toNatClampNeg) 1) else l1)), (0, .ref (ad o))]) hx hb dX4_questionsTillEven_40 hl (k := 3) rfl rfl (by decide) rfl (fun ls hl => ?_)
        refine lv_goto (tgt := 6) hx hb dX4_questionsTillEven_43 (by decide) ?_
        exact ih6 σ (if l1 < (σ ((o + 3) + (l3 : Int32).toNatClampNeg) 1) then (σ ((o + 3) + (l3 : Int32).toNatClampNeg) 1) else l1) (l2 + (σ ((o + 3) + (l3 : Int32).toNatClampNeg) 1)) (l3 + (1 : Int32)) _ _ _ hF hP hD hS (lv_sub hl [3, 2, 1, 0] rfl)
  unfold FX4_questionsTillEven at hF
  refine lv_iconst (v := (0 : Int32)) hx hb dX4_questionsTillEven_0 (by decide) ?_
  refine lv_istore_n (lv' := [(1, .int (0 : Int32)), (0, .ref (ad o))]) hx hb dX4_questionsTillEven_1 rfl hl (by decide) rfl (fun ls hl => ?_)
  refine lv_iconst (v := (0 : Int32)) hx hb dX4_questionsTillEven_2 (by decide) ?_
  refine lv_istore_n (lv' := [(2, .int (0 : Int32)), (1, .int (0 : Int32)), (0, .ref (ad o))]) hx hb dX4_questionsTillEven_3 rfl hl (by decide) rfl (fun ls hl => ?_)
  refine lv_iconst (v := (0 : Int32)) hx hb dX4_questionsTillEven_4 (by decide) ?_
  refine lv_istore_n (lv' := [(3, .int (0 : Int32)), (2, .int (0 : Int32)), (1, .int (0 : Int32)), (0, .ref (ad o))]) hx hb dX4_questionsTillEven_5 rfl hl (by decide) rfl (fun ls hl => ?_)
  exact hB6 n σ (0 : Int32) (0 : Int32) (0 : Int32) _ _ _ hF hP hD hS (lv_sub hl [3, 2, 1, 0] rfl)
