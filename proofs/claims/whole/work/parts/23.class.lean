/-! ===== contracts: X8_refusal, X8_ask, X8_isDone, X8_go, X8_answer, X9_isSheet, X9_isLane, X9_failed, X9_province, X9_ofPerson, X9_worth, X9_weigh ===== -/
theorem kX8_refusal_f32 : Cond.fieldLink RX8 32 "LeastAsked$Sheet" "cells" "[I" ∈ wsX8_refusal := by decide +kernel
theorem iX8_refusal_X6 : ∀ w ∈ u_ws RX6 TX6 4, w ∈ wsX8_refusal := fun _ h => List.mem_cons_of_mem _ (List.mem_append_left _ (List.mem_append_right _ h))
set_option maxHeartbeats 4000000 in
set_option maxRecDepth 100000 in
theorem CX8_refusal (l : Launch) (D : va_G) (cI cS cP : ClassId) (ad : Nat → Nat) (A : Nat → Prop) (n : Nat) (σ σ' : zMem) (r0 : Int32) (q1 : Nat) (q4 : Nat) (p2 : Int32) (p3 : Int32) (hq1 : zk q1 = 6) (hq4 : zk q4 = 4) (hF : FX8_refusal n q1 q4 σ p2 p3 = some (r0, σ')) : Met l yX8_refusal wsX8_refusal ({ frames := 3, cells := 0, slots := 0, locals := 64 } : Room) (va_Pc [.ref (ad q1), .int p2, .int p3, .ref (ad q4)] (zB (zx cI cS cP ad) 41 ad D (zty cI cS cP) A σ)) (va_Qi (fun r u => r = r0 ∧ u = σ') (zB (zx cI cS cP ad) 41 ad D (zty cI cS cP) A) A) 0 0 A := by
  refine Met.ofW (cc := cX8_refusal) (maxL := 7) (ret := (some .int)) (by decide) rfl ?_
  intro p e s m args below meth c s₁ B hml hv
  obtain ⟨rfl, hP, hK, hD, hN⟩ := hv
  have hx := B.exec
  have hb := B.bytes
  have hr := B.returns
  have hts := atoms_spec (ws := wsX8_refusal) B.pre
  have hown : s.vm.findClass RX8 = some m.cls := findClass_of_methodNamed B.named
  have hlocks := B.notSynchronized
  have hS : va_S A s.heap s.heap [] := va_S.rf
  have hl := lv_entry ([.ref (ad q1), .int p2, .int p3, .ref (ad q4)]) (n := 7) (Nat.le_of_ble_eq_true rfl)
  rw [lg_entry_eq]
  generalize (lg_sl ([.ref (ad q1), .int p2, .int p3, .ref (ad q4)]) ++ List.replicate (7 - (lg_sl ([.ref (ad q1), .int p2, .int p3, .ref (ad q4)])).length) Slot.unset).toArray = ls at hl ⊢
  have hl : lv_has ls 7 [(0, .ref (ad q1)), (1, .int p2), (2, .int p3), (3, .ref (ad q4))] := hl
  clear B
  have hB3 : ∀ (f3 : Nat) (σ : zMem) (l1 : Int32) (l2 : Int32) (l4 : Int32), ∀ (H : Heap) (locs : List Loc) (ls : Array Slot), zlp (LX8_refusal_3 n q1 q4) f3 (σ, l1, l2, l4) = some (r0, σ') → va_P D vwCl (zW (zx cI cS cP ad) 41 ad σ) H → va_D A (zW (zx cI cS cP ad) 41 ad σ) → va_S A s.heap H locs → lv_has ls 7 [(0, .ref (ad q1)), (1, .int l1), (2, .int l2), (3, .ref (ad q4)), (4, .int l4)] → W p l e (headSpec wsX8_refusal ({ frames := 3, cells := 0, slots := 0, locals := 64 } : Room)).room s m ([.ref (ad q1), .int p2, .int p3, .ref (ad q4)] : List Value).toArray below meth c H locs 0 0 (MQ below (va_Qi (fun r u => r = r0 ∧ u = σ') (zB (zx cI cS cP ad) 41 ad D (zty cI cS cP) A) A) ([.ref (ad q1), .int p2, .int p3, .ref (ad q4)] : List Value).toArray s 0 0 A) (F0 m 3 ls []) := by
    intro f3
    induction f3 with
    | zero => intro σ l1 l2 l4 H locs ls hF hP hD hS hl; exact (zlp_0 hF).elim
    | succ f3 ih3 =>
      intro σ l1 l2 l4 H locs ls hF hP hD hS hl
      have hF : LBX8_refusal_3 n q1 q4  (zlp (LX8_refusal_3 n q1 q4) f3) σ l1 l2 l4 = some (r0, σ') := hF
      unfold LBX8_refusal_3 at hF
      refine lv_iload hx hb dX8_refusal_3 (lv_at hl 4 rfl) ?_
      refine lv_iload_n hx hb dX8_refusal_5 rfl (lv_at hl 2 rfl) ?_
      refine lv_icmp_ge (tgt := 53) hx hb dX8_refusal_6 (by decide) (fun b1 => ?_) (fun b1 => ?_)
      · have hF := zif_t b1 hF
        refine lv_iconst (v := (0 : Int32)) hx hb dX8_refusal_53 (by decide) ?_
        exact z_iret hx hb hr hlocks hN hK hP hD hS hF dX8_refusal_54
      · have hF := zif_f b1 hF
        refine lv_iload_n hx hb dX8_refusal_9 rfl (lv_at hl 1 rfl) ?_
        refine lv_iconst (v := (2 : Int32)) hx hb dX8_refusal_10 (by decide) ?_
        refine lv_iload hx hb dX8_refusal_11 (lv_at hl 4 rfl) ?_
        refine lv_imul hx hb dX8_refusal_13 ?_
        refine lv_iadd hx hb dX8_refusal_14 ?_
        refine lv_istore (lv' := [(5, .int (l1 + ((2 : Int32) * l4))), (0, .ref (ad q1)), (1, .int l1), (2, .int l2), (3, .ref (ad q4)), (4, .int l4)]) hx hb dX8_refusal_15 hl (by decide) rfl (fun ls hl => ?_)
        refine lv_aload_n hx hb dX8_refusal_17 rfl (lv_at hl 1 rfl) ?_
        refine z_get (ci := 6) (C := RX6) (T := TX6) (N := 4) hx hb hts iX8_refusal_X6 hown hK hP (zk_lt hq1 (by decide)) (zx_6 hq1) rfl 0 (by decide) kX8_refusal_f32 rfl (v := .ref (ad (q1 + 4))) rfl dX8_refusal_18 ?_
        refine lv_iload hx hb dX8_refusal_21 (lv_at hl 0 rfl) ?_
        obtain ⟨g2, hF⟩ := zgd_inv hF
        refine z_iald hx hb hK hP (zk_lt (zk_6c hq1) (by decide)) (zx_160 (zk_6c hq1)) rfl g2 dX8_refusal_23 ?_
        refine lv_aload_n hx hb dX8_refusal_24 rfl (lv_at hl 1 rfl) ?_
        refine z_get (ci := 6) (C := RX6) (T := TX6) (N := 4) hx hb hts iX8_refusal_X6 hown hK hP (zk_lt hq1 (by decide)) (zx_6 hq1) rfl 0 (by decide) kX8_refusal_f32 rfl (v := .ref (ad (q1 + 4))) rfl dX8_refusal_25 ?_
        refine lv_iload hx hb dX8_refusal_28 (lv_at hl 0 rfl) ?_
        refine lv_iconst (v := (1 : Int32)) hx hb dX8_refusal_30 (by decide) ?_
        refine lv_iadd hx hb dX8_refusal_31 ?_
        obtain ⟨g3, hF⟩ := zgd_inv hF
        refine z_iald hx hb hK hP (zk_lt (zk_6c hq1) (by decide)) (zx_160 (zk_6c hq1)) rfl g3 dX8_refusal_32 ?_
        refine lv_aload_n hx hb dX8_refusal_33 rfl (lv_at hl 4 rfl) ?_
        obtain ⟨r5, σ4, hC6, hF⟩ := zbd_inv hF
        refine z_calli (va_runS (As := [.int (σ (q1 + 4) ((l1 + ((2 : Int32) * l4)) : Int32).toNatClampNeg), .int (σ (q1 + 4) (((l1 + ((2 : Int32) * l4)) + (1 : Int32)) : Int32).toNatClampNeg), .ref (ad q4)]) (rest := []) ⟨hx, hb, hml, hown, hts⟩ (CX8_pairRefusal l D cI cS cP ad A n σ σ4 r5 q4 (σ (q1 + 4) ((l1 + ((2 : Int32) * l4)) : Int32).toNatClampNeg) (σ (q1 + 4) (((l1 + ((2 : Int32) * l4)) + (1 : Int32)) : Int32).toNatClampNeg) hq4 hC6) (va_cwS 3 hts gX8_refusal_X8_pairRefusal rfl rfl rfl (by decide +kernel) ⟨Nat.le_of_ble_eq_true rfl, Nat.le_of_ble_eq_true rfl⟩) (z_preS hN hK hP hD) rfl rfl hl.1 rfl (lv_room (Nat.le_of_ble_eq_true rfl)) dX8_refusal_34 ⟨Nat.zero_le _, Nat.zero_le _⟩) hS (fun H locs hP hD hS => ?_)
        refine lv_istore (lv' := [(6, .int r5), (5, .int (l1 + ((2 : Int32) * l4))), (0, .ref (ad q1)), (1, .int l1), (2, .int l2), (3, .ref (ad q4)), (4, .int l4)]) hx hb dX8_refusal_37 hl (by decide) rfl (fun ls hl => ?_)
        refine lv_iload hx hb dX8_refusal_39 (lv_at hl 0 rfl) ?_
        refine lv_if_eq (tgt := 47) hx hb dX8_refusal_41 (by decide) (fun b7 => ?_) (fun b7 => ?_)
        · have hF := zif_t b7 hF
          refine lv_iinc (v := (l4 + (1 : Int32))) (lv' := [(4, .int (l4 + (1 : Int32))), (6, .int r5), (5, .int (l1 + ((2 : Int32) * l4))), (0, .ref (ad q1)), (1, .int l1), (2, .int l2), (3, .ref (ad q4))]) hx hb dX8_refusal_47 hl (k := 6) rfl rfl (by decide) rfl (fun ls hl => ?_)
          refine lv_goto (tgt := 3) hx hb dX8_refusal_50 (by decide) ?_
          exact ih3 σ4 l1 l2 (l4 + (1 : Int32)) _ _ _ hF hP hD hS (lv_sub hl [3, 4, 5, 6, 0] rfl)
        · have hF := zif_f b7 hF
          refine lv_iload hx hb dX8_refusal_44 (lv_at hl 0 rfl) ?_
          exact z_iret hx hb hr hlocks hN hK hP hD hS hF dX8_refusal_46
  unfold FX8_refusal at hF
  refine lv_iconst (v := (0 : Int32)) hx hb dX8_refusal_0 (by decide) ?_
  refine lv_istore (lv' := [(4, .int (0 : Int32)), (0, .ref (ad q1)), (1, .int p2), (2, .int p3), (3, .ref (ad q4))]) hx hb dX8_refusal_1 hl (by decide) rfl (fun ls hl => ?_)
  exact hB3 n σ p2 p3 (0 : Int32) _ _ _ hF hP hD hS (lv_sub hl [1, 2, 3, 4, 0] rfl)
theorem kX8_ask_f62 : Cond.fieldLink RX8 62 "LeastAsked$Province" "people" "[LLeastAsked$Person;" ∈ wsX8_ask := by decide +kernel
theorem kX8_ask_f66 : Cond.fieldLink RX8 66 "LeastAsked$Person" "asked" "I" ∈ wsX8_ask := by decide +kernel
theorem kX8_ask_f9 : Cond.fieldLink RX8 9 "LeastAsked$YearRun" "brought" "I" ∈ wsX8_ask := by decide +kernel
theorem kX8_ask_f15 : Cond.fieldLink RX8 15 "LeastAsked$YearRun" "askedSet" "I" ∈ wsX8_ask := by decide +kernel
theorem kX8_ask_f18 : Cond.fieldLink RX8 18 "LeastAsked$YearRun" "toKnowing" "I" ∈ wsX8_ask := by decide +kernel
theorem iX8_ask_X4 : ∀ w ∈ u_ws RX4 TX4 3, w ∈ wsX8_ask := fun _ h => List.mem_cons_of_mem _ (List.mem_append_left _ (List.mem_append_left _ (List.mem_append_right _ h)))
theorem iX8_ask_X2 : ∀ w ∈ u_ws RX2 TX2 4, w ∈ wsX8_ask := fun _ h => List.mem_cons_of_mem _ (List.mem_append_left _ (List.mem_append_right _ h))
theorem iX8_ask_X8 : ∀ w ∈ u_ws RX8 TX8 4, w ∈ wsX8_ask := fun _ h => List.mem_cons_of_mem _ (List.mem_append_right _ h)
set_option maxHeartbeats 4000000 in
set_option maxRecDepth 100000 in
theorem CX8_ask (l : Launch) (D : va_G) (cI cS cP : ClassId) (ad : Nat → Nat) (A : Nat → Prop) (n : Nat) (σ σ' : zMem) (r0 : Int32) (o : Nat) (q2 : Nat) (p1 : Int32) (ho : zk o = 7) (hq2 : zk q2 = 4) (hF : FX8_ask n o q2 σ p1 = some (r0, σ')) : Met l yX8_ask wsX8_ask ({ frames := 2, cells := 0, slots := 0, locals := 44 } : Room) (va_Pc [.ref (ad o), .int p1, .ref (ad q2)] (zB (zx cI cS cP ad) 41 ad D (zty cI cS cP) A σ)) (va_Qv (fun u => u = σ') (zB (zx cI cS cP ad) 41 ad D (zty cI cS cP) A) A) 0 0 A := by
  refine Met.ofW (cc := cX8_ask) (maxL := 4) (ret := none) (by decide) rfl ?_
  intro p e s m args below meth c s₁ B hml hv
  obtain ⟨rfl, hP, hK, hD, hN⟩ := hv
  have hx := B.exec
  have hb := B.bytes
  have hr := B.returns
  have hts := atoms_spec (ws := wsX8_ask) B.pre
  have hown : s.vm.findClass RX8 = some m.cls := findClass_of_methodNamed B.named
  have hlocks := B.notSynchronized
  have hS : va_S A s.heap s.heap [] := va_S.rf
  have hl := lv_entry ([.ref (ad o), .int p1, .ref (ad q2)]) (n := 4) (Nat.le_of_ble_eq_true rfl)
  rw [lg_entry_eq]
  generalize (lg_sl ([.ref (ad o), .int p1, .ref (ad q2)]) ++ List.replicate (4 - (lg_sl ([.ref (ad o), .int p1, .ref (ad q2)])).length) Slot.unset).toArray = ls at hl ⊢
  have hl : lv_has ls 4 [(0, .ref (ad o)), (1, .int p1), (2, .ref (ad q2))] := hl
  clear B
  unfold FX8_ask at hF
  refine lv_aload_n hx hb dX8_ask_0 rfl (lv_at hl 2 rfl) ?_
  obtain ⟨r2, σ1, hC3, hF⟩ := zbd_inv hF
  refine z_calli (va_runV (As := []) (rest := []) ⟨hx, hb, hml, hown, hts⟩ (CX4_first l D cI cS cP ad A n σ σ1 r2 q2 hq2 hC3) (cwV 0 hts gX8_ask_X4_first rfl rfl rfl (by decide +kernel) ⟨Nat.le_of_ble_eq_true rfl, Nat.le_of_ble_eq_true rfl⟩) (z_preV hN hK hP hD (zk_lt hq2 (by decide)) (zx_4 hq2) rfl) rfl rfl hl.1 rfl (lv_room (Nat.le_of_ble_eq_true rfl)) dX8_ask_1 ⟨Nat.zero_le _, Nat.zero_le _⟩) hS (fun H locs hP hD hS => ?_)
  refine lv_istore_n (lv' := [(3, .int r2), (0, .ref (ad o)), (1, .int p1), (2, .ref (ad q2))]) hx hb dX8_ask_4 rfl hl (by decide) rfl (fun ls hl => ?_)
  refine lv_aload_n hx hb dX8_ask_5 rfl (lv_at hl 3 rfl) ?_
  refine z_get (ci := 4) (C := RX4) (T := TX4) (N := 3) hx hb hts iX8_ask_X4 hown hK hP (zk_lt hq2 (by decide)) (zx_4 hq2) rfl 1 (by decide) kX8_ask_f62 rfl (v := .ref (ad (q2 + 2))) rfl dX8_ask_6 ?_
  refine lv_iload_n hx hb dX8_ask_9 rfl (lv_at hl 0 rfl) ?_
  obtain ⟨g4, hF⟩ := zgd_inv hF
  refine z_aldq hx hb hK hP 2 (zk_lt (zk_4p hq2) (by decide)) (zx_22 (zk_4p hq2)) rfl g4 dX8_ask_10 ?_
  refine lv_dup hx hb dX8_ask_11 rfl ?_
  refine z_get (ci := 2) (C := RX2) (T := TX2) (N := 4) hx hb hts iX8_ask_X2 hown hK hP (zk_lt (zk_22p (zk_4p hq2) g4) (by decide)) (zx_2 (zk_22p (zk_4p hq2) g4)) rfl 1 (by decide) kX8_ask_f66 rfl (v := .int (σ1 ((q2 + 3) + (r2 : Int32).toNatClampNeg) 1)) rfl dX8_ask_12 ?_
  refine lv_iconst (v := (1 : Int32)) hx hb dX8_ask_15 (by decide) ?_
  refine lv_iadd hx hb dX8_ask_16 ?_
  obtain ⟨σ5, eσ5, hF⟩ := zlet_inv hF
  refine z_put (ci := 2) (C := RX2) (T := TX2) (N := 4) hx hb hts iX8_ask_X2 tyX2 tyX2_ok nmX2 hown hK hP hD hS (zk_lt (zk_22p (zk_4p hq2) g4) (by decide)) (zx_2 (zk_22p (zk_4p hq2) g4)) rfl 1 (by decide) kX8_ask_f66 rfl rfl rfl rfl (Nat.le_of_ble_eq_true rfl) (zx_2 (zk_22p (zk_4p hq2) g4)) dX8_ask_17 (fun H locs hP hD hS => ?_)
  have hP : va_P D vwCl (zW (zx cI cS cP ad) 41 ad σ5) H := by rw [eσ5]; exact hP
  have hD : va_D A (zW (zx cI cS cP ad) 41 ad σ5) := by rw [eσ5]; exact hD
  refine lv_aload_n hx hb dX8_ask_20 rfl (lv_at hl 1 rfl) ?_
  refine lv_dup hx hb dX8_ask_21 rfl ?_
  refine z_get (ci := 7) (C := RX8) (T := TX8) (N := 4) hx hb hts iX8_ask_X8 hown hK hP (zk_lt ho (by decide)) (zx_7 ho) rfl 0 (by decide) kX8_ask_f9 rfl (v := .int (σ5 o 0)) rfl dX8_ask_22 ?_
  refine lv_aload_n hx hb dX8_ask_25 rfl (lv_at hl 3 rfl) ?_
  refine lv_iload_n hx hb dX8_ask_26 rfl (lv_at hl 0 rfl) ?_
  refine lv_iload_n hx hb dX8_ask_27 rfl (lv_at hl 2 rfl) ?_
  obtain ⟨r7, σ6, hC8, hF⟩ := zbd_inv hF
  refine z_calli (va_runV (As := [.int r2, .int p1]) (rest := [.int (σ5 o 0), .ref (ad o)]) ⟨hx, hb, hml, hown, hts⟩ (CX4_bringing l D cI cS cP ad A n σ5 σ6 r7 q2 r2 p1 hq2 hC8) (cwV 2 hts gX8_ask_X4_bringing rfl rfl rfl (by decide +kernel) ⟨Nat.le_of_ble_eq_true rfl, Nat.le_of_ble_eq_true rfl⟩) (z_preV hN hK hP hD (zk_lt hq2 (by decide)) (zx_4 hq2) rfl) rfl rfl hl.1 rfl (lv_room (Nat.le_of_ble_eq_true rfl)) dX8_ask_28 ⟨Nat.zero_le _, Nat.zero_le _⟩) hS (fun H locs hP hD hS => ?_)
  refine lv_iadd hx hb dX8_ask_31 ?_
  obtain ⟨σ9, eσ9, hF⟩ := zlet_inv hF
  refine z_put (ci := 7) (C := RX8) (T := TX8) (N := 4) hx hb hts iX8_ask_X8 tyX8 tyX8_ok nmX8 hown hK hP hD hS (zk_lt ho (by decide)) (zx_7 ho) rfl 0 (by decide) kX8_ask_f9 rfl rfl rfl rfl (Nat.le_of_ble_eq_true rfl) (zx_7 ho) dX8_ask_32 (fun H locs hP hD hS => ?_)
  have hP : va_P D vwCl (zW (zx cI cS cP ad) 41 ad σ9) H := by rw [eσ9]; exact hP
  have hD : va_D A (zW (zx cI cS cP ad) 41 ad σ9) := by rw [eσ9]; exact hD
  refine lv_aload_n hx hb dX8_ask_35 rfl (lv_at hl 1 rfl) ?_
  refine lv_dup hx hb dX8_ask_36 rfl ?_
  refine z_get (ci := 7) (C := RX8) (T := TX8) (N := 4) hx hb hts iX8_ask_X8 hown hK hP (zk_lt ho (by decide)) (zx_7 ho) rfl 1 (by decide) kX8_ask_f15 rfl (v := .int (σ9 o 1)) rfl dX8_ask_37 ?_
  refine lv_iconst (v := (1 : Int32)) hx hb dX8_ask_40 (by decide) ?_
  refine lv_iload_n hx hb dX8_ask_41 rfl (lv_at hl 0 rfl) ?_
  refine lv_ishl hx hb dX8_ask_42 ?_
  refine lv_ior hx hb dX8_ask_43 ?_
  obtain ⟨σ10, eσ10, hF⟩ := zlet_inv hF
  refine z_put (ci := 7) (C := RX8) (T := TX8) (N := 4) hx hb hts iX8_ask_X8 tyX8 tyX8_ok nmX8 hown hK hP hD hS (zk_lt ho (by decide)) (zx_7 ho) rfl 1 (by decide) kX8_ask_f15 rfl rfl rfl rfl (Nat.le_of_ble_eq_true rfl) (zx_7 ho) dX8_ask_44 (fun H locs hP hD hS => ?_)
  have hP : va_P D vwCl (zW (zx cI cS cP ad) 41 ad σ10) H := by rw [eσ10]; exact hP
  have hD : va_D A (zW (zx cI cS cP ad) 41 ad σ10) := by rw [eσ10]; exact hD
  refine lv_aload_n hx hb dX8_ask_47 rfl (lv_at hl 3 rfl) ?_
  refine z_get (ci := 4) (C := RX4) (T := TX4) (N := 3) hx hb hts iX8_ask_X4 hown hK hP (zk_lt hq2 (by decide)) (zx_4 hq2) rfl 1 (by decide) kX8_ask_f62 rfl (v := .ref (ad (q2 + 2))) rfl dX8_ask_48 ?_
  refine lv_iload_n hx hb dX8_ask_51 rfl (lv_at hl 0 rfl) ?_
  obtain ⟨g11, hF⟩ := zgd_inv hF
  refine z_aldq hx hb hK hP 2 (zk_lt (zk_4p hq2) (by decide)) (zx_22 (zk_4p hq2)) rfl g11 dX8_ask_52 ?_
  refine lv_iload_n hx hb dX8_ask_53 rfl (lv_at hl 2 rfl) ?_
  obtain ⟨r13, σ12, hC14, hF⟩ := zbd_inv hF
  refine z_calli (va_runV (As := [.int p1]) (rest := []) ⟨hx, hb, hml, hown, hts⟩ (CX2_isKnowing l D cI cS cP ad A n σ10 σ12 r13 ((q2 + 3) + (r2 : Int32).toNatClampNeg) p1 (zk_22p (zk_4p hq2) g11) hC14) (cwV 1 hts gX8_ask_X2_isKnowing rfl rfl rfl (by decide +kernel) ⟨Nat.le_of_ble_eq_true rfl, Nat.le_of_ble_eq_true rfl⟩) (z_preV hN hK hP hD (zk_lt (zk_22p (zk_4p hq2) g11) (by decide)) (zx_2 (zk_22p (zk_4p hq2) g11)) rfl) rfl rfl hl.1 rfl (lv_room (Nat.le_of_ble_eq_true rfl)) dX8_ask_54 ⟨Nat.zero_le _, Nat.zero_le _⟩) hS (fun H locs hP hD hS => ?_)
  refine lv_if_eq (tgt := 70) hx hb dX8_ask_57 (by decide) (fun b15 => ?_) (fun b15 => ?_)
  · have hF := zif_t b15 hF
    exact z_vret hx hb hr hlocks hN hK hP hD hS hF dX8_ask_70
  · have hF := zif_f b15 hF
    refine lv_aload_n hx hb dX8_ask_60 rfl (lv_at hl 1 rfl) ?_
    refine lv_dup hx hb dX8_ask_61 rfl ?_
    refine z_get (ci := 7) (C := RX8) (T := TX8) (N := 4) hx hb hts iX8_ask_X8 hown hK hP (zk_lt ho (by decide)) (zx_7 ho) rfl 2 (by decide) kX8_ask_f18 rfl (v := .int (σ12 o 2)) rfl dX8_ask_62 ?_
    refine lv_iconst (v := (1 : Int32)) hx hb dX8_ask_65 (by decide) ?_
    refine lv_iadd hx hb dX8_ask_66 ?_
    obtain ⟨σ16, eσ16, hF⟩ := zlet_inv hF
    refine z_put (ci := 7) (C := RX8) (T := TX8) (N := 4) hx hb hts iX8_ask_X8 tyX8 tyX8_ok nmX8 hown hK hP hD hS (zk_lt ho (by decide)) (zx_7 ho) rfl 2 (by decide) kX8_ask_f18 rfl rfl rfl rfl (Nat.le_of_ble_eq_true rfl) (zx_7 ho) dX8_ask_67 (fun H locs hP hD hS => ?_)
    have hP : va_P D vwCl (zW (zx cI cS cP ad) 41 ad σ16) H := by rw [eσ16]; exact hP
    have hD : va_D A (zW (zx cI cS cP ad) 41 ad σ16) := by rw [eσ16]; exact hD
    exact z_vret hx hb hr hlocks hN hK hP hD hS hF dX8_ask_70
theorem kX8_isDone_f62 : Cond.fieldLink RX8 62 "LeastAsked$Province" "people" "[LLeastAsked$Person;" ∈ wsX8_isDone := by decide +kernel
theorem kX8_isDone_f71 : Cond.fieldLink RX8 71 "LeastAsked$Person" "knows" "I" ∈ wsX8_isDone := by decide +kernel
theorem kX8_isDone_f66 : Cond.fieldLink RX8 66 "LeastAsked$Person" "asked" "I" ∈ wsX8_isDone := by decide +kernel
theorem iX8_isDone_X4 : ∀ w ∈ u_ws RX4 TX4 3, w ∈ wsX8_isDone := fun _ h => List.mem_cons_of_mem _ (List.mem_append_left _ (List.mem_append_left _ (List.mem_append_right _ h)))
theorem iX8_isDone_X2 : ∀ w ∈ u_ws RX2 TX2 4, w ∈ wsX8_isDone := fun _ h => List.mem_cons_of_mem _ (List.mem_append_left _ (List.mem_append_right _ h))
set_option maxHeartbeats 4000000 in
set_option maxRecDepth 100000 in
theorem CX8_isDone (l : Launch) (D : va_G) (cI cS cP : ClassId) (ad : Nat → Nat) (A : Nat → Prop) (n : Nat) (σ σ' : zMem) (r0 : Int32) (o : Nat) (q3 : Nat) (p1 : Int32) (p2 : Int32) (ho : zk o = 7) (hq3 : zk q3 = 4) (hF : FX8_isDone n o q3 σ p1 p2 = some (r0, σ')) : Met l yX8_isDone wsX8_isDone ({ frames := 3, cells := 0, slots := 0, locals := 67 } : Room) (va_Pc [.ref (ad o), .int p1, .int p2, .ref (ad q3)] (zB (zx cI cS cP ad) 41 ad D (zty cI cS cP) A σ)) (va_Qi (fun r u => r = r0 ∧ u = σ') (zB (zx cI cS cP ad) 41 ad D (zty cI cS cP) A) A) 0 0 A := by
  refine Met.ofW (cc := cX8_isDone) (maxL := 5) (ret := (some .boolean)) (by decide) rfl ?_
  intro p e s m args below meth c s₁ B hml hv
  obtain ⟨rfl, hP, hK, hD, hN⟩ := hv
  have hx := B.exec
  have hb := B.bytes
  have hr := B.returns
  have hts := atoms_spec (ws := wsX8_isDone) B.pre
  have hown : s.vm.findClass RX8 = some m.cls := findClass_of_methodNamed B.named
  have hlocks := B.notSynchronized
  have hS : va_S A s.heap s.heap [] := va_S.rf
  have hl := lv_entry ([.ref (ad o), .int p1, .int p2, .ref (ad q3)]) (n := 5) (Nat.le_of_ble_eq_true rfl)
  rw [lg_entry_eq]
  generalize (lg_sl ([.ref (ad o), .int p1, .int p2, .ref (ad q3)]) ++ List.replicate (5 - (lg_sl ([.ref (ad o), .int p1, .int p2, .ref (ad q3)])).length) Slot.unset).toArray = ls at hl ⊢
  have hl : lv_has ls 5 [(0, .ref (ad o)), (1, .int p1), (2, .int p2), (3, .ref (ad q3))] := hl
  clear B
  have hB52 : ∀ (σ : zMem) (l1 : Int32) (l2 : Int32) (l4 : Int32), ∀ (H : Heap) (locs : List Loc) (ls : Array Slot), BX8_isDone_52 n o q3 σ l1 l2 l4 = some (r0, σ') → va_P D vwCl (zW (zx cI cS cP ad) 41 ad σ) H → va_D A (zW (zx cI cS cP ad) 41 ad σ) → va_S A s.heap H locs → lv_has ls 5 [(0, .ref (ad o)), (1, .int l1), (2, .int l2), (3, .ref (ad q3)), (4, .int l4)] → W p l e (headSpec wsX8_isDone ({ frames := 3, cells := 0, slots := 0, locals := 67 } : Room)).room s m ([.ref (ad o), .int p1, .int p2, .ref (ad q3)] : List Value).toArray below meth c H locs 0 0 (MQ below (va_Qi (fun r u => r = r0 ∧ u = σ') (zB (zx cI cS cP ad) 41 ad D (zty cI cS cP) A) A) ([.ref (ad o), .int p1, .int p2, .ref (ad q3)] : List Value).toArray s 0 0 A) (F0 m 52 ls []) := by
    intro σ l1 l2 l4 H locs ls hF hP hD hS hl
    unfold BX8_isDone_52 at hF
    refine lv_iload_n hx hb dX8_isDone_52 rfl (lv_at hl 2 rfl) ?_
    refine lv_iconst (v := (1 : Int32)) hx hb dX8_isDone_53 (by decide) ?_
    refine lv_icmp_ne (tgt := 76) hx hb dX8_isDone_54 (by decide) (fun b1 => ?_) (fun b1 => ?_)
    · have hF := zif_f b1 hF
      refine lv_aload_n hx hb dX8_isDone_76 rfl (lv_at hl 3 rfl) ?_
      refine z_get (ci := 4) (C := RX4) (T := TX4) (N := 3) hx hb hts iX8_isDone_X4 hown hK hP (zk_lt hq3 (by decide)) (zx_4 hq3) rfl 1 (by decide) kX8_isDone_f62 rfl (v := .ref (ad (q3 + 2))) rfl dX8_isDone_77 ?_
      refine lv_iload hx hb dX8_isDone_80 (lv_at hl 4 rfl) ?_
      obtain ⟨g2, hF⟩ := zgd_inv hF
      refine z_aldq hx hb hK hP 2 (zk_lt (zk_4p hq3) (by decide)) (zx_22 (zk_4p hq3)) rfl g2 dX8_isDone_82 ?_
      refine lv_iload_n hx hb dX8_isDone_83 rfl (lv_at hl 1 rfl) ?_
      obtain ⟨σ3, eσ3, hF⟩ := zlet_inv hF
      refine z_put (ci := 2) (C := RX2) (T := TX2) (N := 4) hx hb hts iX8_isDone_X2 tyX2 tyX2_ok nmX2 hown hK hP hD hS (zk_lt (zk_22p (zk_4p hq3) g2) (by decide)) (zx_2 (zk_22p (zk_4p hq3) g2)) rfl 2 (by decide) kX8_isDone_f71 rfl rfl rfl rfl (Nat.le_of_ble_eq_true rfl) (zx_2 (zk_22p (zk_4p hq3) g2)) dX8_isDone_84 (fun H locs hP hD hS => ?_)
      have hP : va_P D vwCl (zW (zx cI cS cP ad) 41 ad σ3) H := by rw [eσ3]; exact hP
      have hD : va_D A (zW (zx cI cS cP ad) 41 ad σ3) := by rw [eσ3]; exact hD
      refine lv_iconst (v := (1 : Int32)) hx hb dX8_isDone_87 (by decide) ?_
      exact z_zret hx hb hr hlocks (Or.inr rfl) hN hK hP hD hS hF dX8_isDone_88
    · have hF := zif_t b1 hF
      refine lv_aload_n hx hb dX8_isDone_57 rfl (lv_at hl 3 rfl) ?_
      refine z_get (ci := 4) (C := RX4) (T := TX4) (N := 3) hx hb hts iX8_isDone_X4 hown hK hP (zk_lt hq3 (by decide)) (zx_4 hq3) rfl 1 (by decide) kX8_isDone_f62 rfl (v := .ref (ad (q3 + 2))) rfl dX8_isDone_58 ?_
      refine lv_iload hx hb dX8_isDone_61 (lv_at hl 4 rfl) ?_
      obtain ⟨g4, hF⟩ := zgd_inv hF
      refine z_aldq hx hb hK hP 2 (zk_lt (zk_4p hq3) (by decide)) (zx_22 (zk_4p hq3)) rfl g4 dX8_isDone_63 ?_
      refine lv_dup hx hb dX8_isDone_64 rfl ?_
      refine z_get (ci := 2) (C := RX2) (T := TX2) (N := 4) hx hb hts iX8_isDone_X2 hown hK hP (zk_lt (zk_22p (zk_4p hq3) g4) (by decide)) (zx_2 (zk_22p (zk_4p hq3) g4)) rfl 1 (by decide) kX8_isDone_f66 rfl (v := .int (σ ((q3 + 3) + (l4 : Int32).toNatClampNeg) 1)) rfl dX8_isDone_65 ?_
      refine lv_iconst (v := (1 : Int32)) hx hb dX8_isDone_68 (by decide) ?_
      refine lv_iadd hx hb dX8_isDone_69 ?_
      obtain ⟨σ5, eσ5, hF⟩ := zlet_inv hF
      refine z_put (ci := 2) (C := RX2) (T := TX2) (N := 4) hx hb hts iX8_isDone_X2 tyX2 tyX2_ok nmX2 hown hK hP hD hS (zk_lt (zk_22p (zk_4p hq3) g4) (by decide)) (zx_2 (zk_22p (zk_4p hq3) g4)) rfl 1 (by decide) kX8_isDone_f66 rfl rfl rfl rfl (Nat.le_of_ble_eq_true rfl) (zx_2 (zk_22p (zk_4p hq3) g4)) dX8_isDone_70 (fun H locs hP hD hS => ?_)
      have hP : va_P D vwCl (zW (zx cI cS cP ad) 41 ad σ5) H := by rw [eσ5]; exact hP
      have hD : va_D A (zW (zx cI cS cP ad) 41 ad σ5) := by rw [eσ5]; exact hD
      refine lv_goto (tgt := 87) hx hb dX8_isDone_73 (by decide) ?_
      refine lv_iconst (v := (1 : Int32)) hx hb dX8_isDone_87 (by decide) ?_
      exact z_zret hx hb hr hlocks (Or.inr rfl) hN hK hP hD hS hF dX8_isDone_88
  have hB25 : ∀ (σ : zMem) (l1 : Int32) (l2 : Int32) (s0 : Int32), ∀ (H : Heap) (locs : List Loc) (ls : Array Slot), BX8_isDone_25 n o q3 σ l1 l2 s0 = some (r0, σ') → va_P D vwCl (zW (zx cI cS cP ad) 41 ad σ) H → va_D A (zW (zx cI cS cP ad) 41 ad σ) → va_S A s.heap H locs → lv_has ls 5 [(0, .ref (ad o)), (1, .int l1), (2, .int l2), (3, .ref (ad q3))] → W p l e (headSpec wsX8_isDone ({ frames := 3, cells := 0, slots := 0, locals := 67 } : Room)).room s m ([.ref (ad o), .int p1, .int p2, .ref (ad q3)] : List Value).toArray below meth c H locs 0 0 (MQ below (va_Qi (fun r u => r = r0 ∧ u = σ') (zB (zx cI cS cP ad) 41 ad D (zty cI cS cP) A) A) ([.ref (ad o), .int p1, .int p2, .ref (ad q3)] : List Value).toArray s 0 0 A) (F0 m 25 ls [.int s0]) := by
    intro σ l1 l2 s0 H locs ls hF hP hD hS hl
    unfold BX8_isDone_25 at hF
    refine lv_istore (lv' := [(4, .int s0), (0, .ref (ad o)), (1, .int l1), (2, .int l2), (3, .ref (ad q3))]) hx hb dX8_isDone_25 hl (by decide) rfl (fun ls hl => ?_)
    refine lv_aload_n hx hb dX8_isDone_27 rfl (lv_at hl 4 rfl) ?_
    refine lv_iload hx hb dX8_isDone_28 (lv_at hl 0 rfl) ?_
    obtain ⟨r7, σ6, hC8, hF⟩ := zbd_inv hF
    refine z_calli (va_runV (As := [.int s0]) (rest := []) ⟨hx, hb, hml, hown, hts⟩ (CX4_hasPerson l D cI cS cP ad A n σ σ6 r7 q3 s0 hq3 hC8) (cwV 1 hts gX8_isDone_X4_hasPerson rfl rfl rfl (by decide +kernel) ⟨Nat.le_of_ble_eq_true rfl, Nat.le_of_ble_eq_true rfl⟩) (z_preV hN hK hP hD (zk_lt hq3 (by decide)) (zx_4 hq3) rfl) rfl rfl hl.1 rfl (lv_room (Nat.le_of_ble_eq_true rfl)) dX8_isDone_30 ⟨Nat.zero_le _, Nat.zero_le _⟩) hS (fun H locs hP hD hS => ?_)
    refine lv_if_eq (tgt := 50) hx hb dX8_isDone_33 (by decide) (fun b9 => ?_) (fun b9 => ?_)
    · have hF := zif_t b9 hF
      refine lv_iconst (v := (0 : Int32)) hx hb dX8_isDone_50 (by decide) ?_
      exact z_zret hx hb hr hlocks (Or.inl rfl) hN hK hP hD hS hF dX8_isDone_51
    · have hF := zif_f b9 hF
      refine lv_iload_n hx hb dX8_isDone_36 rfl (lv_at hl 3 rfl) ?_
      refine lv_iconst (v := (1 : Int32)) hx hb dX8_isDone_37 (by decide) ?_
      refine lv_icmp_ne (tgt := 52) hx hb dX8_isDone_38 (by decide) (fun b10 => ?_) (fun b10 => ?_)
      · have hF := zif_f b10 hF
        exact hB52 σ6 l1 l2 s0 _ _ _ hF hP hD hS (lv_sub hl [1, 2, 3, 4, 0] rfl)
      · have hF := zif_t b10 hF
        refine lv_aload_n hx hb dX8_isDone_41 rfl (lv_at hl 4 rfl) ?_
        obtain ⟨r12, σ11, hC13, hF⟩ := zbd_inv hF
        refine z_calli (va_runV (As := []) (rest := []) ⟨hx, hb, hml, hown, hts⟩ (CX4_first l D cI cS cP ad A n σ6 σ11 r12 q3 hq3 hC13) (cwV 0 hts gX8_isDone_X4_first rfl rfl rfl (by decide +kernel) ⟨Nat.le_of_ble_eq_true rfl, Nat.le_of_ble_eq_true rfl⟩) (z_preV hN hK hP hD (zk_lt hq3 (by decide)) (zx_4 hq3) rfl) rfl rfl hl.1 rfl (lv_room (Nat.le_of_ble_eq_true rfl)) dX8_isDone_42 ⟨Nat.zero_le _, Nat.zero_le _⟩) hS (fun H locs hP hD hS => ?_)
        refine lv_iload hx hb dX8_isDone_45 (lv_at hl 0 rfl) ?_
        refine lv_icmp_eq (tgt := 52) hx hb dX8_isDone_47 (by decide) (fun b14 => ?_) (fun b14 => ?_)
        · have hF := zif_t b14 hF
          exact hB52 σ11 l1 l2 s0 _ _ _ hF hP hD hS (lv_sub hl [1, 2, 3, 4, 0] rfl)
        · have hF := zif_f b14 hF
          refine lv_iconst (v := (0 : Int32)) hx hb dX8_isDone_50 (by decide) ?_
          exact z_zret hx hb hr hlocks (Or.inl rfl) hN hK hP hD hS hF dX8_isDone_51
  unfold FX8_isDone at hF
  refine lv_iload_n hx hb dX8_isDone_0 rfl (lv_at hl 2 rfl) ?_
  refine lv_if_ne (tgt := 12) hx hb dX8_isDone_1 (by decide) (fun b15 => ?_) (fun b15 => ?_)
  · have hF := zif_f b15 hF
    refine lv_iload_n hx hb dX8_isDone_12 rfl (lv_at hl 2 rfl) ?_
    refine lv_iconst (v := (1 : Int32)) hx hb dX8_isDone_13 (by decide) ?_
    refine lv_icmp_ne (tgt := 21) hx hb dX8_isDone_14 (by decide) (fun b16 => ?_) (fun b16 => ?_)
    · have hF := zif_f b16 hF
      refine lv_iload_n hx hb dX8_isDone_21 rfl (lv_at hl 2 rfl) ?_
      refine lv_bipush (v := (10 : Int32)) hx hb dX8_isDone_22 (by decide) ?_
      refine lv_isub hx hb dX8_isDone_24 ?_
      exact hB25 σ p1 p2 (p2 - (10 : Int32)) _ _ _ hF hP hD hS (lv_sub hl [0, 1, 2, 3] rfl)
    · have hF := zif_t b16 hF
      refine lv_iload_n hx hb dX8_isDone_17 rfl (lv_at hl 1 rfl) ?_
      refine lv_goto (tgt := 25) hx hb dX8_isDone_18 (by decide) ?_
      exact hB25 σ p1 p2 p1 _ _ _ hF hP hD hS (lv_sub hl [0, 1, 2, 3] rfl)
  · have hF := zif_t b15 hF
    refine lv_aload_n hx hb dX8_isDone_4 rfl (lv_at hl 0 rfl) ?_
    refine lv_iload_n hx hb dX8_isDone_5 rfl (lv_at hl 1 rfl) ?_
    refine lv_aload_n hx hb dX8_isDone_6 rfl (lv_at hl 3 rfl) ?_
    obtain ⟨r18, σ17, hC19, hF⟩ := zbd_inv hF
    refine z_callv (va_runV (As := [.int p1, .ref (ad q3)]) (rest := []) ⟨hx, hb, hml, hown, hts⟩ (CX8_ask l D cI cS cP ad A n σ σ17 r18 o q3 p1 ho hq3 hC19) (cwV 2 hts gX8_isDone_X8_ask rfl rfl rfl (by decide +kernel) ⟨Nat.le_of_ble_eq_true rfl, Nat.le_of_ble_eq_true rfl⟩) (z_preV hN hK hP hD (zk_lt ho (by decide)) (zx_7 ho) rfl) rfl rfl hl.1 rfl (lv_room (Nat.le_of_ble_eq_true rfl)) dX8_isDone_7 ⟨Nat.zero_le _, Nat.zero_le _⟩) hS (fun H locs hP hD hS => ?_)
    refine lv_iconst (v := (1 : Int32)) hx hb dX8_isDone_10 (by decide) ?_
    exact z_zret hx hb hr hlocks (Or.inr rfl) hN hK hP hD hS hF dX8_isDone_11
theorem kX8_go_f21 : Cond.fieldLink RX8 21 "LeastAsked$YearRun" "wrong" "I" ∈ wsX8_go := by decide +kernel
theorem kX8_go_f32 : Cond.fieldLink RX8 32 "LeastAsked$Sheet" "cells" "[I" ∈ wsX8_go := by decide +kernel
theorem kX8_go_f9 : Cond.fieldLink RX8 9 "LeastAsked$YearRun" "brought" "I" ∈ wsX8_go := by decide +kernel
theorem kX8_go_f15 : Cond.fieldLink RX8 15 "LeastAsked$YearRun" "askedSet" "I" ∈ wsX8_go := by decide +kernel
theorem kX8_go_f18 : Cond.fieldLink RX8 18 "LeastAsked$YearRun" "toKnowing" "I" ∈ wsX8_go := by decide +kernel
theorem iX8_go_X8 : ∀ w ∈ u_ws RX8 TX8 4, w ∈ wsX8_go := fun _ h => List.mem_cons_of_mem _ (List.mem_append_left _ (List.mem_append_left _ (List.mem_append_left _ (List.mem_append_right _ h))))
theorem iX8_go_X6 : ∀ w ∈ u_ws RX6 TX6 4, w ∈ wsX8_go := fun _ h => List.mem_cons_of_mem _ (List.mem_append_left _ (List.mem_append_left _ (List.mem_append_right _ h)))
set_option maxHeartbeats 4000000 in
set_option maxRecDepth 100000 in
theorem CX8_go (l : Launch) (D : va_G) (cI cS cP : ClassId) (ad : Nat → Nat) (A : Nat → Prop) (n : Nat) (σ σ' : zMem) (r0 : Int32) (o : Nat) (q1 : Nat) (q4 : Nat) (p2 : Int32) (p3 : Int32) (ho : zk o = 7) (hq1 : zk q1 = 6) (hq4 : zk q4 = 4) (hF : FX8_go n o q1 q4 σ p2 p3 = some (r0, σ')) : Met l yX8_go wsX8_go ({ frames := 4, cells := 0, slots := 0, locals := 91 } : Room) (va_Pc [.ref (ad o), .ref (ad q1), .int p2, .int p3, .ref (ad q4)] (zB (zx cI cS cP ad) 41 ad D (zty cI cS cP) A σ)) (va_Qv (fun u => u = σ') (zB (zx cI cS cP ad) 41 ad D (zty cI cS cP) A) A) 0 0 A := by
  refine Met.ofW (cc := cX8_go) (maxL := 7) (ret := none) (by decide) rfl ?_
  intro p e s m args below meth c s₁ B hml hv
  obtain ⟨rfl, hP, hK, hD, hN⟩ := hv
  have hx := B.exec
  have hb := B.bytes
  have hr := B.returns
  have hts := atoms_spec (ws := wsX8_go) B.pre
  have hown : s.vm.findClass RX8 = some m.cls := findClass_of_methodNamed B.named
  have hlocks := B.notSynchronized
  have hS : va_S A s.heap s.heap [] := va_S.rf
  have hl := lv_entry ([.ref (ad o), .ref (ad q1), .int p2, .int p3, .ref (ad q4)]) (n := 7) (Nat.le_of_ble_eq_true rfl)
  rw [lg_entry_eq]
  generalize (lg_sl ([.ref (ad o), .ref (ad q1), .int p2, .int p3, .ref (ad q4)]) ++ List.replicate (7 - (lg_sl ([.ref (ad o), .ref (ad q1), .int p2, .int p3, .ref (ad q4)])).length) Slot.unset).toArray = ls at hl ⊢
  have hl : lv_has ls 7 [(0, .ref (ad o)), (1, .ref (ad q1)), (2, .int p2), (3, .int p3), (4, .ref (ad q4))] := hl
  clear B
  have hB24 : ∀ (f24 : Nat) (σ : zMem) (l2 : Int32) (l3 : Int32) (l5 : Int32), ∀ (H : Heap) (locs : List Loc) (ls : Array Slot), zlp (LX8_go_24 n o q1 q4) f24 (σ, l2, l3, l5) = some (r0, σ') → va_P D vwCl (zW (zx cI cS cP ad) 41 ad σ) H → va_D A (zW (zx cI cS cP ad) 41 ad σ) → va_S A s.heap H locs → lv_has ls 7 [(0, .ref (ad o)), (1, .ref (ad q1)), (2, .int l2), (3, .int l3), (4, .ref (ad q4)), (5, .int l5)] → W p l e (headSpec wsX8_go ({ frames := 4, cells := 0, slots := 0, locals := 91 } : Room)).room s m ([.ref (ad o), .ref (ad q1), .int p2, .int p3, .ref (ad q4)] : List Value).toArray below meth c H locs 0 0 (MQ below (va_Qv (fun u => u = σ') (zB (zx cI cS cP ad) 41 ad D (zty cI cS cP) A) A) ([.ref (ad o), .ref (ad q1), .int p2, .int p3, .ref (ad q4)] : List Value).toArray s 0 0 A) (F0 m 24 ls []) := by
    intro f24
    induction f24 with
    | zero => intro σ l2 l3 l5 H locs ls hF hP hD hS hl; exact (zlp_0 hF).elim
    | succ f24 ih24 =>
      intro σ l2 l3 l5 H locs ls hF hP hD hS hl
      have hF : LBX8_go_24 n o q1 q4  (zlp (LX8_go_24 n o q1 q4) f24) σ l2 l3 l5 = some (r0, σ') := hF
      unfold LBX8_go_24 at hF
      refine lv_iload hx hb dX8_go_24 (lv_at hl 5 rfl) ?_
      refine lv_iload_n hx hb dX8_go_26 rfl (lv_at hl 3 rfl) ?_
      refine lv_icmp_ge (tgt := 84) hx hb dX8_go_27 (by decide) (fun b1 => ?_) (fun b1 => ?_)
      · have hF := zif_t b1 hF
        exact z_vret hx hb hr hlocks hN hK hP hD hS hF dX8_go_84
      · have hF := zif_f b1 hF
        refine lv_aload_n hx hb dX8_go_30 rfl (lv_at hl 0 rfl) ?_
        refine z_get (ci := 7) (C := RX8) (T := TX8) (N := 4) hx hb hts iX8_go_X8 hown hK hP (zk_lt ho (by decide)) (zx_7 ho) rfl 3 (by decide) kX8_go_f21 rfl (v := .int (σ o 3)) rfl dX8_go_31 ?_
        refine lv_bipush (v := (-9 : Int32)) hx hb dX8_go_34 (by decide) ?_
        refine lv_icmp_ne (tgt := 84) hx hb dX8_go_36 (by decide) (fun b2 => ?_) (fun b2 => ?_)
        · have hF := zif_f b2 hF
          exact z_vret hx hb hr hlocks hN hK hP hD hS hF dX8_go_84
        · have hF := zif_t b2 hF
          refine lv_iload_n hx hb dX8_go_39 rfl (lv_at hl 2 rfl) ?_
          refine lv_iconst (v := (2 : Int32)) hx hb dX8_go_40 (by decide) ?_
          refine lv_iload hx hb dX8_go_41 (lv_at hl 5 rfl) ?_
          refine lv_imul hx hb dX8_go_43 ?_
          refine lv_iadd hx hb dX8_go_44 ?_
          refine lv_istore (lv' := [(6, .int (l2 + ((2 : Int32) * l5))), (0, .ref (ad o)), (1, .ref (ad q1)), (2, .int l2), (3, .int l3), (4, .ref (ad q4)), (5, .int l5)]) hx hb dX8_go_45 hl (by decide) rfl (fun ls hl => ?_)
          refine lv_aload_n hx hb dX8_go_47 rfl (lv_at hl 1 rfl) ?_
          refine lv_aload_n hx hb dX8_go_48 rfl (lv_at hl 2 rfl) ?_
          refine z_get (ci := 6) (C := RX6) (T := TX6) (N := 4) hx hb hts iX8_go_X6 hown hK hP (zk_lt hq1 (by decide)) (zx_6 hq1) rfl 0 (by decide) kX8_go_f32 rfl (v := .ref (ad (q1 + 4))) rfl dX8_go_49 ?_
          refine lv_iload hx hb dX8_go_52 (lv_at hl 0 rfl) ?_
          obtain ⟨g3, hF⟩ := zgd_inv hF
          refine z_iald hx hb hK hP (zk_lt (zk_6c hq1) (by decide)) (zx_160 (zk_6c hq1)) rfl g3 dX8_go_54 ?_
          refine lv_aload_n hx hb dX8_go_55 rfl (lv_at hl 2 rfl) ?_
          refine z_get (ci := 6) (C := RX6) (T := TX6) (N := 4) hx hb hts iX8_go_X6 hown hK hP (zk_lt hq1 (by decide)) (zx_6 hq1) rfl 0 (by decide) kX8_go_f32 rfl (v := .ref (ad (q1 + 4))) rfl dX8_go_56 ?_
          refine lv_iload hx hb dX8_go_59 (lv_at hl 0 rfl) ?_
          refine lv_iconst (v := (1 : Int32)) hx hb dX8_go_61 (by decide) ?_
          refine lv_iadd hx hb dX8_go_62 ?_
          obtain ⟨g4, hF⟩ := zgd_inv hF
          refine z_iald hx hb hK hP (zk_lt (zk_6c hq1) (by decide)) (zx_160 (zk_6c hq1)) rfl g4 dX8_go_63 ?_
          refine lv_aload hx hb dX8_go_64 (lv_at hl 5 rfl) ?_
          obtain ⟨r6, σ5, hC7, hF⟩ := zbd_inv hF
          refine z_calli (va_runV (As := [.int (σ (q1 + 4) ((l2 + ((2 : Int32) * l5)) : Int32).toNatClampNeg), .int (σ (q1 + 4) (((l2 + ((2 : Int32) * l5)) + (1 : Int32)) : Int32).toNatClampNeg), .ref (ad q4)]) (rest := []) ⟨hx, hb, hml, hown, hts⟩ (CX8_isDone l D cI cS cP ad A n σ σ5 r6 o q4 (σ (q1 + 4) ((l2 + ((2 : Int32) * l5)) : Int32).toNatClampNeg) (σ (q1 + 4) (((l2 + ((2 : Int32) * l5)) + (1 : Int32)) : Int32).toNatClampNeg) ho hq4 hC7) (cwV 3 hts gX8_go_X8_isDone rfl rfl rfl (by decide +kernel) ⟨Nat.le_of_ble_eq_true rfl, Nat.le_of_ble_eq_true rfl⟩) (z_preV hN hK hP hD (zk_lt ho (by decide)) (zx_7 ho) rfl) rfl rfl hl.1 rfl (lv_room (Nat.le_of_ble_eq_true rfl)) dX8_go_66 ⟨Nat.zero_le _, Nat.zero_le _⟩) hS (fun H locs hP hD hS => ?_)
          refine lv_if_ne (tgt := 78) hx hb dX8_go_69 (by decide) (fun b8 => ?_) (fun b8 => ?_)
          · have hF := zif_f b8 hF
            refine lv_iinc (v := (l5 + (1 : Int32))) (lv' := [(5, .int (l5 + (1 : Int32))), (6, .int (l2 + ((2 : Int32) * l5))), (0, .ref (ad o)), (1, .ref (ad q1)), (2, .int l2), (3, .int l3), (4, .ref (ad q4))]) hx hb dX8_go_78 hl (k := 6) rfl rfl (by decide) rfl (fun ls hl => ?_)
            refine lv_goto (tgt := 24) hx hb dX8_go_81 (by decide) ?_
            exact ih24 σ5 l2 l3 (l5 + (1 : Int32)) _ _ _ hF hP hD hS (lv_sub hl [2, 3, 4, 5, 6, 0] rfl)
          · have hF := zif_t b8 hF
            refine lv_aload_n hx hb dX8_go_72 rfl (lv_at hl 1 rfl) ?_
            refine lv_iload hx hb dX8_go_73 (lv_at hl 6 rfl) ?_
            obtain ⟨σ9, eσ9, hF⟩ := zlet_inv hF
            refine z_put (ci := 7) (C := RX8) (T := TX8) (N := 4) hx hb hts iX8_go_X8 tyX8 tyX8_ok nmX8 hown hK hP hD hS (zk_lt ho (by decide)) (zx_7 ho) rfl 3 (by decide) kX8_go_f21 rfl rfl rfl rfl (Nat.le_of_ble_eq_true rfl) (zx_7 ho) dX8_go_75 (fun H locs hP hD hS => ?_)
            have hP : va_P D vwCl (zW (zx cI cS cP ad) 41 ad σ9) H := by rw [eσ9]; exact hP
            have hD : va_D A (zW (zx cI cS cP ad) 41 ad σ9) := by rw [eσ9]; exact hD
            refine lv_iinc (v := (l5 + (1 : Int32))) (lv' := [(5, .int (l5 + (1 : Int32))), (6, .int (l2 + ((2 : Int32) * l5))), (0, .ref (ad o)), (1, .ref (ad q1)), (2, .int l2), (3, .int l3), (4, .ref (ad q4))]) hx hb dX8_go_78 hl (k := 6) rfl rfl (by decide) rfl (fun ls hl => ?_)
            refine lv_goto (tgt := 24) hx hb dX8_go_81 (by decide) ?_
            exact ih24 σ9 l2 l3 (l5 + (1 : Int32)) _ _ _ hF hP hD hS (lv_sub hl [2, 3, 4, 5, 6, 0] rfl)
  unfold FX8_go at hF
  refine lv_aload_n hx hb dX8_go_0 rfl (lv_at hl 0 rfl) ?_
  refine lv_iconst (v := (0 : Int32)) hx hb dX8_go_1 (by decide) ?_
  obtain ⟨σ10, eσ10, hF⟩ := zlet_inv hF
  refine z_put (ci := 7) (C := RX8) (T := TX8) (N := 4) hx hb hts iX8_go_X8 tyX8 tyX8_ok nmX8 hown hK hP hD hS (zk_lt ho (by decide)) (zx_7 ho) rfl 0 (by decide) kX8_go_f9 rfl rfl rfl rfl (Nat.le_of_ble_eq_true rfl) (zx_7 ho) dX8_go_2 (fun H locs hP hD hS => ?_)
  have hP : va_P D vwCl (zW (zx cI cS cP ad) 41 ad σ10) H := by rw [eσ10]; exact hP
  have hD : va_D A (zW (zx cI cS cP ad) 41 ad σ10) := by rw [eσ10]; exact hD
  refine lv_aload_n hx hb dX8_go_5 rfl (lv_at hl 0 rfl) ?_
  refine lv_iconst (v := (0 : Int32)) hx hb dX8_go_6 (by decide) ?_
  obtain ⟨σ11, eσ11, hF⟩ := zlet_inv hF
  refine z_put (ci := 7) (C := RX8) (T := TX8) (N := 4) hx hb hts iX8_go_X8 tyX8 tyX8_ok nmX8 hown hK hP hD hS (zk_lt ho (by decide)) (zx_7 ho) rfl 1 (by decide) kX8_go_f15 rfl rfl rfl rfl (Nat.le_of_ble_eq_true rfl) (zx_7 ho) dX8_go_7 (fun H locs hP hD hS => ?_)
  have hP : va_P D vwCl (zW (zx cI cS cP ad) 41 ad σ11) H := by rw [eσ11]; exact hP
  have hD : va_D A (zW (zx cI cS cP ad) 41 ad σ11) := by rw [eσ11]; exact hD
  refine lv_aload_n hx hb dX8_go_10 rfl (lv_at hl 0 rfl) ?_
  refine lv_iconst (v := (0 : Int32)) hx hb dX8_go_11 (by decide) ?_
  obtain ⟨σ12, eσ12, hF⟩ := zlet_inv hF
  refine z_put (ci := 7) (C := RX8) (T := TX8) (N := 4) hx hb hts iX8_go_X8 tyX8 tyX8_ok nmX8 hown hK hP hD hS (zk_lt ho (by decide)) (zx_7 ho) rfl 2 (by decide) kX8_go_f18 rfl rfl rfl rfl (Nat.le_of_ble_eq_true rfl) (zx_7 ho) dX8_go_12 (fun H locs hP hD hS => ?_)
  have hP : va_P D vwCl (zW (zx cI cS cP ad) 41 ad σ12) H := by rw [eσ12]; exact hP
  have hD : va_D A (zW (zx cI cS cP ad) 41 ad σ12) := by rw [eσ12]; exact hD
  refine lv_aload_n hx hb dX8_go_15 rfl (lv_at hl 0 rfl) ?_
  refine lv_bipush (v := (-9 : Int32)) hx hb dX8_go_16 (by decide) ?_
  obtain ⟨σ13, eσ13, hF⟩ := zlet_inv hF
  refine z_put (ci := 7) (C := RX8) (T := TX8) (N := 4) hx hb hts iX8_go_X8 tyX8 tyX8_ok nmX8 hown hK hP hD hS (zk_lt ho (by decide)) (zx_7 ho) rfl 3 (by decide) kX8_go_f21 rfl rfl rfl rfl (Nat.le_of_ble_eq_true rfl) (zx_7 ho) dX8_go_18 (fun H locs hP hD hS => ?_)
  have hP : va_P D vwCl (zW (zx cI cS cP ad) 41 ad σ13) H := by rw [eσ13]; exact hP
  have hD : va_D A (zW (zx cI cS cP ad) 41 ad σ13) := by rw [eσ13]; exact hD
  refine lv_iconst (v := (0 : Int32)) hx hb dX8_go_21 (by decide) ?_
  refine lv_istore (lv' := [(5, .int (0 : Int32)), (0, .ref (ad o)), (1, .ref (ad q1)), (2, .int p2), (3, .int p3), (4, .ref (ad q4))]) hx hb dX8_go_22 hl (by decide) rfl (fun ls hl => ?_)
  exact hB24 n σ13 p2 p3 (0 : Int32) _ _ _ hF hP hD hS (lv_sub hl [1, 2, 3, 4, 5, 0] rfl)
theorem kX8_answer_f62 : Cond.fieldLink RX8 62 "LeastAsked$Province" "people" "[LLeastAsked$Person;" ∈ wsX8_answer := by decide +kernel
theorem kX8_answer_f66 : Cond.fieldLink RX8 66 "LeastAsked$Person" "asked" "I" ∈ wsX8_answer := by decide +kernel
theorem kX8_answer_f21 : Cond.fieldLink RX8 21 "LeastAsked$YearRun" "wrong" "I" ∈ wsX8_answer := by decide +kernel
theorem kX8_answer_f9 : Cond.fieldLink RX8 9 "LeastAsked$YearRun" "brought" "I" ∈ wsX8_answer := by decide +kernel
theorem kX8_answer_f15 : Cond.fieldLink RX8 15 "LeastAsked$YearRun" "askedSet" "I" ∈ wsX8_answer := by decide +kernel
theorem kX8_answer_f18 : Cond.fieldLink RX8 18 "LeastAsked$YearRun" "toKnowing" "I" ∈ wsX8_answer := by decide +kernel
theorem iX8_answer_X4 : ∀ w ∈ u_ws RX4 TX4 3, w ∈ wsX8_answer := fun _ h => List.mem_cons_of_mem _ (List.mem_append_left _ (List.mem_append_right _ h))
theorem iX8_answer_X2 : ∀ w ∈ u_ws RX2 TX2 4, w ∈ wsX8_answer := fun _ h => List.mem_cons_of_mem _ (List.mem_append_right _ h)
theorem iX8_answer_X8 : ∀ w ∈ u_ws RX8 TX8 4, w ∈ wsX8_answer := fun _ h => List.mem_cons_of_mem _ (List.mem_append_left _ (List.mem_append_left _ (List.mem_append_right _ h)))
set_option maxHeartbeats 4000000 in
set_option maxRecDepth 100000 in
theorem CX8_answer (l : Launch) (D : va_G) (cI cS cP : ClassId) (ad : Nat → Nat) (A : Nat → Prop) (n : Nat) (σ σ' : zMem) (r0 : Int32) (o : Nat) (q2 : Nat) (p1 : Int32) (ho : zk o = 7) (hq2 : zk q2 = 4) (hF : FX8_answer n o q2 σ p1 = some (r0, σ')) : Met l yX8_answer wsX8_answer ({ frames := 2, cells := 0, slots := 0, locals := 42 } : Room) (va_Pc [.ref (ad o), .int p1, .ref (ad q2)] (zB (zx cI cS cP ad) 41 ad D (zty cI cS cP) A σ)) (va_Qi (fun r u => r = r0 ∧ u = σ') (zB (zx cI cS cP ad) 41 ad D (zty cI cS cP) A) A) 0 0 A := by
  refine Met.ofW (cc := cX8_answer) (maxL := 3) (ret := (some .int)) (by decide) rfl ?_
  intro p e s m args below meth c s₁ B hml hv
  obtain ⟨rfl, hP, hK, hD, hN⟩ := hv
  have hx := B.exec
  have hb := B.bytes
  have hr := B.returns
  have hts := atoms_spec (ws := wsX8_answer) B.pre
  have hown : s.vm.findClass RX8 = some m.cls := findClass_of_methodNamed B.named
  have hlocks := B.notSynchronized
  have hS : va_S A s.heap s.heap [] := va_S.rf
  have hl := lv_entry ([.ref (ad o), .int p1, .ref (ad q2)]) (n := 3) (Nat.le_of_ble_eq_true rfl)
  rw [lg_entry_eq]
  generalize (lg_sl ([.ref (ad o), .int p1, .ref (ad q2)]) ++ List.replicate (3 - (lg_sl ([.ref (ad o), .int p1, .ref (ad q2)])).length) Slot.unset).toArray = ls at hl ⊢
  have hl : lv_has ls 3 [(0, .ref (ad o)), (1, .int p1), (2, .ref (ad q2))] := hl
  clear B
  have hB84 : ∀ (σ : zMem) (l1 : Int32), ∀ (H : Heap) (locs : List Loc) (ls : Array Slot), BX8_answer_84 n o q2 σ l1 = some (r0, σ') → va_P D vwCl (zW (zx cI cS cP ad) 41 ad σ) H → va_D A (zW (zx cI cS cP ad) 41 ad σ) → va_S A s.heap H locs → lv_has ls 3 [(0, .ref (ad o)), (1, .int l1), (2, .ref (ad q2))] → W p l e (headSpec wsX8_answer ({ frames := 2, cells := 0, slots := 0, locals := 42 } : Room)).room s m ([.ref (ad o), .int p1, .ref (ad q2)] : List Value).toArray below meth c H locs 0 0 (MQ below (va_Qi (fun r u => r = r0 ∧ u = σ') (zB (zx cI cS cP ad) 41 ad D (zty cI cS cP) A) A) ([.ref (ad o), .int p1, .ref (ad q2)] : List Value).toArray s 0 0 A) (F0 m 84 ls []) := by
    intro σ l1 H locs ls hF hP hD hS hl
    unfold BX8_answer_84 at hF
    refine lv_aload_n hx hb dX8_answer_84 rfl (lv_at hl 2 rfl) ?_
    refine lv_iload_n hx hb dX8_answer_85 rfl (lv_at hl 1 rfl) ?_
    refine lv_bipush (v := (10 : Int32)) hx hb dX8_answer_86 (by decide) ?_
    refine lv_isub hx hb dX8_answer_88 ?_
    obtain ⟨r2, σ1, hC3, hF⟩ := zbd_inv hF
    refine z_calli (va_runV (As := [.int (l1 - (10 : Int32))]) (rest := []) ⟨hx, hb, hml, hown, hts⟩ (CX4_hasPerson l D cI cS cP ad A n σ σ1 r2 q2 (l1 - (10 : Int32)) hq2 hC3) (cwV 1 hts gX8_answer_X4_hasPerson rfl rfl rfl (by decide +kernel) ⟨Nat.le_of_ble_eq_true rfl, Nat.le_of_ble_eq_true rfl⟩) (z_preV hN hK hP hD (zk_lt hq2 (by decide)) (zx_4 hq2) rfl) rfl rfl hl.1 rfl (lv_room (Nat.le_of_ble_eq_true rfl)) dX8_answer_89 ⟨Nat.zero_le _, Nat.zero_le _⟩) hS (fun H locs hP hD hS => ?_)
    refine lv_if_eq (tgt := 110) hx hb dX8_answer_92 (by decide) (fun b4 => ?_) (fun b4 => ?_)
    · have hF := zif_t b4 hF
      refine lv_bipush (v := (-9 : Int32)) hx hb dX8_answer_110 (by decide) ?_
      exact z_iret hx hb hr hlocks hN hK hP hD hS hF dX8_answer_112
    · have hF := zif_f b4 hF
      refine lv_aload_n hx hb dX8_answer_95 rfl (lv_at hl 2 rfl) ?_
      refine z_get (ci := 4) (C := RX4) (T := TX4) (N := 3) hx hb hts iX8_answer_X4 hown hK hP (zk_lt hq2 (by decide)) (zx_4 hq2) rfl 1 (by decide) kX8_answer_f62 rfl (v := .ref (ad (q2 + 2))) rfl dX8_answer_96 ?_
      refine lv_iload_n hx hb dX8_answer_99 rfl (lv_at hl 1 rfl) ?_
      refine lv_bipush (v := (10 : Int32)) hx hb dX8_answer_100 (by decide) ?_
      refine lv_isub hx hb dX8_answer_102 ?_
      obtain ⟨g5, hF⟩ := zgd_inv hF
      refine z_aldq hx hb hK hP 2 (zk_lt (zk_4p hq2) (by decide)) (zx_22 (zk_4p hq2)) rfl g5 dX8_answer_103 ?_
      refine z_get (ci := 2) (C := RX2) (T := TX2) (N := 4) hx hb hts iX8_answer_X2 hown hK hP (zk_lt (zk_22p (zk_4p hq2) g5) (by decide)) (zx_2 (zk_22p (zk_4p hq2) g5)) rfl 1 (by decide) kX8_answer_f66 rfl (v := .int (σ1 ((q2 + 3) + ((l1 - (10 : Int32)) : Int32).toNatClampNeg) 1)) rfl dX8_answer_104 ?_
      refine lv_goto (tgt := 112) hx hb dX8_answer_107 (by decide) ?_
      exact z_iret hx hb hr hlocks hN hK hP hD hS hF dX8_answer_112
  unfold FX8_answer at hF
  refine lv_iload_n hx hb dX8_answer_0 rfl (lv_at hl 1 rfl) ?_
  refine lv_iconst (v := (1 : Int32)) hx hb dX8_answer_1 (by decide) ?_
  refine lv_icmp_ne (tgt := 10) hx hb dX8_answer_2 (by decide) (fun b6 => ?_) (fun b6 => ?_)
  · have hF := zif_f b6 hF
    refine lv_aload_n hx hb dX8_answer_10 rfl (lv_at hl 0 rfl) ?_
    refine z_get (ci := 7) (C := RX8) (T := TX8) (N := 4) hx hb hts iX8_answer_X8 hown hK hP (zk_lt ho (by decide)) (zx_7 ho) rfl 3 (by decide) kX8_answer_f21 rfl (v := .int (σ o 3)) rfl dX8_answer_11 ?_
    refine lv_bipush (v := (-9 : Int32)) hx hb dX8_answer_14 (by decide) ?_
    refine lv_icmp_eq (tgt := 27) hx hb dX8_answer_16 (by decide) (fun b7 => ?_) (fun b7 => ?_)
    · have hF := zif_t b7 hF
      refine lv_iload_n hx hb dX8_answer_27 rfl (lv_at hl 1 rfl) ?_
      by_cases b8 : p1 = (0 : Int32)
      · have hF := zif_t b8 hF
        refine lv_tableIn (tgt := 64) hx hb dX8_answer_28 (by rw [b8]; decide) (by rw [b8]; decide) (by rw [b8]; rfl) (by decide) ?_
        refine lv_aload_n hx hb dX8_answer_64 rfl (lv_at hl 0 rfl) ?_
        refine z_get (ci := 7) (C := RX8) (T := TX8) (N := 4) hx hb hts iX8_answer_X8 hown hK hP (zk_lt ho (by decide)) (zx_7 ho) rfl 0 (by decide) kX8_answer_f9 rfl (v := .int (σ o 0)) rfl dX8_answer_65 ?_
        exact z_iret hx hb hr hlocks hN hK hP hD hS hF dX8_answer_68
      · have hF := zif_f b8 hF
        by_cases b9 : p1 = (1 : Int32)
        · have hF := zif_t b9 hF
          refine lv_tableIn (tgt := 84) hx hb dX8_answer_28 (by rw [b9]; decide) (by rw [b9]; decide) (by rw [b9]; rfl) (by decide) ?_
          exact hB84 σ p1 _ _ _ hF hP hD hS (lv_sub hl [0, 1, 2] rfl)
        · have hF := zif_f b9 hF
          by_cases b10 : p1 = (2 : Int32)
          · have hF := zif_t b10 hF
            refine lv_tableIn (tgt := 69) hx hb dX8_answer_28 (by rw [b10]; decide) (by rw [b10]; decide) (by rw [b10]; rfl) (by decide) ?_
            refine lv_aload_n hx hb dX8_answer_69 rfl (lv_at hl 0 rfl) ?_
            refine z_get (ci := 7) (C := RX8) (T := TX8) (N := 4) hx hb hts iX8_answer_X8 hown hK hP (zk_lt ho (by decide)) (zx_7 ho) rfl 1 (by decide) kX8_answer_f15 rfl (v := .int (σ o 1)) rfl dX8_answer_70 ?_
            exact z_iret hx hb hr hlocks hN hK hP hD hS hF dX8_answer_73
          · have hF := zif_f b10 hF
            by_cases b11 : p1 = (3 : Int32)
            · have hF := zif_t b11 hF
              refine lv_tableIn (tgt := 74) hx hb dX8_answer_28 (by rw [b11]; decide) (by rw [b11]; decide) (by rw [b11]; rfl) (by decide) ?_
              refine lv_aload_n hx hb dX8_answer_74 rfl (lv_at hl 0 rfl) ?_
              refine z_get (ci := 7) (C := RX8) (T := TX8) (N := 4) hx hb hts iX8_answer_X8 hown hK hP (zk_lt ho (by decide)) (zx_7 ho) rfl 2 (by decide) kX8_answer_f18 rfl (v := .int (σ o 2)) rfl dX8_answer_75 ?_
              exact z_iret hx hb hr hlocks hN hK hP hD hS hF dX8_answer_78
            · have hF := zif_f b11 hF
              by_cases b12 : p1 = (4 : Int32)
              · have hF := zif_t b12 hF
                refine lv_tableIn (tgt := 79) hx hb dX8_answer_28 (by rw [b12]; decide) (by rw [b12]; decide) (by rw [b12]; rfl) (by decide) ?_
                refine lv_aload_n hx hb dX8_answer_79 rfl (lv_at hl 2 rfl) ?_
                obtain ⟨r14, σ13, hC15, hF⟩ := zbd_inv hF
                refine z_calli (va_runV (As := []) (rest := []) ⟨hx, hb, hml, hown, hts⟩ (CX4_first l D cI cS cP ad A n σ σ13 r14 q2 hq2 hC15) (cwV 0 hts gX8_answer_X4_first rfl rfl rfl (by decide +kernel) ⟨Nat.le_of_ble_eq_true rfl, Nat.le_of_ble_eq_true rfl⟩) (z_preV hN hK hP hD (zk_lt hq2 (by decide)) (zx_4 hq2) rfl) rfl rfl hl.1 rfl (lv_room (Nat.le_of_ble_eq_true rfl)) dX8_answer_80 ⟨Nat.zero_le _, Nat.zero_le _⟩) hS (fun H locs hP hD hS => ?_)
                exact z_iret hx hb hr hlocks hN hK hP hD hS hF dX8_answer_83
              · have hF := zif_f b12 hF
                refine lv_tableOut (tgt := 84) hx hb dX8_answer_28 (by have nb8 := lv_neT b8 (a := 0) (by decide); have nb9 := lv_neT b9 (a := 1) (by decide); have nb10 := lv_neT b10 (a := 2) (by decide); have nb11 := lv_neT b11 (a := 3) (by decide); have nb12 := lv_neT b12 (a := 4) (by decide); omega) (by decide) ?_
                exact hB84 σ p1 _ _ _ hF hP hD hS (lv_sub hl [0, 1, 2] rfl)
    · have hF := zif_f b7 hF
      refine lv_bipush (v := (-100 : Int32)) hx hb dX8_answer_19 (by decide) ?_
      refine lv_aload_n hx hb dX8_answer_21 rfl (lv_at hl 0 rfl) ?_
      refine z_get (ci := 7) (C := RX8) (T := TX8) (N := 4) hx hb hts iX8_answer_X8 hown hK hP (zk_lt ho (by decide)) (zx_7 ho) rfl 3 (by decide) kX8_answer_f21 rfl (v := .int (σ o 3)) rfl dX8_answer_22 ?_
      refine lv_isub hx hb dX8_answer_25 ?_
      exact z_iret hx hb hr hlocks hN hK hP hD hS hF dX8_answer_26
  · have hF := zif_t b6 hF
    refine lv_aload_n hx hb dX8_answer_5 rfl (lv_at hl 0 rfl) ?_
    refine z_get (ci := 7) (C := RX8) (T := TX8) (N := 4) hx hb hts iX8_answer_X8 hown hK hP (zk_lt ho (by decide)) (zx_7 ho) rfl 3 (by decide) kX8_answer_f21 rfl (v := .int (σ o 3)) rfl dX8_answer_6 ?_
    exact z_iret hx hb hr hlocks hN hK hP hD hS hF dX8_answer_9
set_option maxHeartbeats 4000000 in
set_option maxRecDepth 100000 in
theorem CX9_isSheet (l : Launch) (D : va_G) (cI cS cP : ClassId) (ad : Nat → Nat) (A : Nat → Prop) (n : Nat) (σ σ' : zMem) (r0 : Int32) (p1 : Int32) (hF : FX9_isSheet n σ p1 = some (r0, σ')) : Met l yX9_isSheet wsX9_isSheet ({ frames := 1, cells := 0, slots := 0, locals := 21 } : Room) (va_Pc [.int p1] (zB (zx cI cS cP ad) 41 ad D (zty cI cS cP) A σ)) (va_Qi (fun r u => r = r0 ∧ u = σ') (zB (zx cI cS cP ad) 41 ad D (zty cI cS cP) A) A) 0 0 A := by
  refine Met.ofW (cc := cX9_isSheet) (maxL := 1) (ret := (some .boolean)) (by decide) rfl ?_
  intro p e s m args below meth c s₁ B hml hv
  obtain ⟨rfl, hP, hK, hD, hN⟩ := hv
  have hx := B.exec
  have hb := B.bytes
  have hr := B.returns
  have hts := atoms_spec (ws := wsX9_isSheet) B.pre
  have hown : s.vm.findClass RX9 = some m.cls := findClass_of_methodNamed B.named
  have hlocks := B.notSynchronized
  have hS : va_S A s.heap s.heap [] := va_S.rf
  have hl := lv_entry ([.int p1]) (n := 1) (Nat.le_of_ble_eq_true rfl)
  rw [lg_entry_eq]
  generalize (lg_sl ([.int p1]) ++ List.replicate (1 - (lg_sl ([.int p1])).length) Slot.unset).toArray = ls at hl ⊢
  have hl : lv_has ls 1 [(0, .int p1)] := hl
  clear B
  unfold FX9_isSheet at hF
  refine lv_iload_n hx hb dX9_isSheet_0 rfl (lv_at hl 0 rfl) ?_
  refine lv_iconst (v := (4 : Int32)) hx hb dX9_isSheet_1 (by decide) ?_
  obtain ⟨r2, σ1, hC3, hF⟩ := zbd_inv hF
  refine z_calli (va_runS (As := [.int p1, .int (4 : Int32)]) (rest := []) ⟨hx, hb, hml, hown, hts⟩ (CX9_isBelow l D cI cS cP ad A n σ σ1 r2 p1 (4 : Int32) hC3) (va_cwS 2 hts gX9_isSheet_X9_isBelow rfl rfl rfl (by decide +kernel) ⟨Nat.le_of_ble_eq_true rfl, Nat.le_of_ble_eq_true rfl⟩) (z_preS hN hK hP hD) rfl rfl hl.1 rfl (lv_room (Nat.le_of_ble_eq_true rfl)) dX9_isSheet_2 ⟨Nat.zero_le _, Nat.zero_le _⟩) hS (fun H locs hP hD hS => ?_)
  obtain ⟨g4, hF⟩ := zgd_inv hF
  exact z_zret hx hb hr hlocks g4 hN hK hP hD hS hF dX9_isSheet_5
set_option maxHeartbeats 4000000 in
set_option maxRecDepth 100000 in
theorem CX9_isLane (l : Launch) (D : va_G) (cI cS cP : ClassId) (ad : Nat → Nat) (A : Nat → Prop) (n : Nat) (σ σ' : zMem) (r0 : Int32) (p1 : Int32) (hF : FX9_isLane n σ p1 = some (r0, σ')) : Met l yX9_isLane wsX9_isLane ({ frames := 0, cells := 0, slots := 0, locals := 0 } : Room) (va_Pc [.int p1] (zB (zx cI cS cP ad) 41 ad D (zty cI cS cP) A σ)) (va_Qi (fun r u => r = r0 ∧ u = σ') (zB (zx cI cS cP ad) 41 ad D (zty cI cS cP) A) A) 0 0 A := by
  refine Met.ofW (cc := cX9_isLane) (maxL := 1) (ret := (some .boolean)) (by decide) rfl ?_
  intro p e s m args below meth c s₁ B hml hv
  obtain ⟨rfl, hP, hK, hD, hN⟩ := hv
  have hx := B.exec
  have hb := B.bytes
  have hr := B.returns
  have hts := atoms_spec (ws := wsX9_isLane) B.pre
  have hown : s.vm.findClass RX9 = some m.cls := findClass_of_methodNamed B.named
  have hlocks := B.notSynchronized
  have hS : va_S A s.heap s.heap [] := va_S.rf
  have hl := lv_entry ([.int p1]) (n := 1) (Nat.le_of_ble_eq_true rfl)
  rw [lg_entry_eq]
  generalize (lg_sl ([.int p1]) ++ List.replicate (1 - (lg_sl ([.int p1])).length) Slot.unset).toArray = ls at hl ⊢
  have hl : lv_has ls 1 [(0, .int p1)] := hl
  clear B
  have hB14 : ∀ (σ : zMem) (l0 : Int32), ∀ (H : Heap) (locs : List Loc) (ls : Array Slot), BX9_isLane_14 n σ l0 = some (r0, σ') → va_P D vwCl (zW (zx cI cS cP ad) 41 ad σ) H → va_D A (zW (zx cI cS cP ad) 41 ad σ) → va_S A s.heap H locs → lv_has ls 1 [(0, .int l0)] → W p l e (headSpec wsX9_isLane ({ frames := 0, cells := 0, slots := 0, locals := 0 } : Room)).room s m ([.int p1] : List Value).toArray below meth c H locs 0 0 (MQ below (va_Qi (fun r u => r = r0 ∧ u = σ') (zB (zx cI cS cP ad) 41 ad D (zty cI cS cP) A) A) ([.int p1] : List Value).toArray s 0 0 A) (F0 m 14 ls []) := by
    intro σ l0 H locs ls hF hP hD hS hl
    unfold BX9_isLane_14 at hF
    refine lv_iconst (v := (1 : Int32)) hx hb dX9_isLane_14 (by decide) ?_
    refine lv_goto (tgt := 19) hx hb dX9_isLane_15 (by decide) ?_
    exact z_zret hx hb hr hlocks (Or.inr rfl) hN hK hP hD hS hF dX9_isLane_19
  unfold FX9_isLane at hF
  refine lv_iload_n hx hb dX9_isLane_0 rfl (lv_at hl 0 rfl) ?_
  refine lv_if_eq (tgt := 14) hx hb dX9_isLane_1 (by decide) (fun b1 => ?_) (fun b1 => ?_)
  · have hF := zif_t b1 hF
    exact hB14 σ p1 _ _ _ hF hP hD hS (lv_sub hl [0] rfl)
  · have hF := zif_f b1 hF
    refine lv_iload_n hx hb dX9_isLane_4 rfl (lv_at hl 0 rfl) ?_
    refine lv_iconst (v := (1 : Int32)) hx hb dX9_isLane_5 (by decide) ?_
    refine lv_icmp_eq (tgt := 14) hx hb dX9_isLane_6 (by decide) (fun b2 => ?_) (fun b2 => ?_)
    · have hF := zif_t b2 hF
      exact hB14 σ p1 _ _ _ hF hP hD hS (lv_sub hl [0] rfl)
    · have hF := zif_f b2 hF
      refine lv_iload_n hx hb dX9_isLane_9 rfl (lv_at hl 0 rfl) ?_
      refine lv_iconst (v := (2 : Int32)) hx hb dX9_isLane_10 (by decide) ?_
      refine lv_icmp_ne (tgt := 18) hx hb dX9_isLane_11 (by decide) (fun b3 => ?_) (fun b3 => ?_)
      · have hF := zif_f b3 hF
        refine lv_iconst (v := (0 : Int32)) hx hb dX9_isLane_18 (by decide) ?_
        exact z_zret hx hb hr hlocks (Or.inl rfl) hN hK hP hD hS hF dX9_isLane_19
      · have hF := zif_t b3 hF
        exact hB14 σ p1 _ _ _ hF hP hD hS (lv_sub hl [0] rfl)
theorem kX9_failed_f69 : Cond.fieldLink RX9 69 "LeastAsked" "lastFault" "I" ∈ wsX9_failed := by decide +kernel
theorem iX9_failed_X9 : ∀ w ∈ u_ws RX9 TX9 11, w ∈ wsX9_failed := fun _ h => List.mem_cons_of_mem _ (List.mem_append_right _ h)
set_option maxHeartbeats 4000000 in
set_option maxRecDepth 100000 in
theorem CX9_failed (l : Launch) (D : va_G) (cI cS cP : ClassId) (ad : Nat → Nat) (A : Nat → Prop) (n : Nat) (σ σ' : zMem) (r0 : Int32) (p1 : Int32) (hF : FX9_failed n σ p1 = some (r0, σ')) : Met l yX9_failed wsX9_failed ({ frames := 0, cells := 0, slots := 0, locals := 0 } : Room) (va_Pc [.ref (ad 0), .int p1] (zB (zx cI cS cP ad) 41 ad D (zty cI cS cP) A σ)) (va_Qi (fun r u => r = r0 ∧ u = σ') (zB (zx cI cS cP ad) 41 ad D (zty cI cS cP) A) A) 0 0 A := by
  refine Met.ofW (cc := cX9_failed) (maxL := 2) (ret := (some .int)) (by decide) rfl ?_
  intro p e s m args below meth c s₁ B hml hv
  obtain ⟨rfl, hP, hK, hD, hN⟩ := hv
  have hx := B.exec
  have hb := B.bytes
  have hr := B.returns
  have hts := atoms_spec (ws := wsX9_failed) B.pre
  have hown : s.vm.findClass RX9 = some m.cls := findClass_of_methodNamed B.named
  have hlocks := B.notSynchronized
  have hS : va_S A s.heap s.heap [] := va_S.rf
  have hl := lv_entry ([.ref (ad 0), .int p1]) (n := 2) (Nat.le_of_ble_eq_true rfl)
  rw [lg_entry_eq]
  generalize (lg_sl ([.ref (ad 0), .int p1]) ++ List.replicate (2 - (lg_sl ([.ref (ad 0), .int p1])).length) Slot.unset).toArray = ls at hl ⊢
  have hl : lv_has ls 2 [(0, .ref (ad 0)), (1, .int p1)] := hl
  clear B
  unfold FX9_failed at hF
  refine lv_aload_n hx hb dX9_failed_0 rfl (lv_at hl 0 rfl) ?_
  refine lv_iload_n hx hb dX9_failed_1 rfl (lv_at hl 1 rfl) ?_
  obtain ⟨σ1, eσ1, hF⟩ := zlet_inv hF
  refine z_put (ci := 8) (C := RX9) (T := TX9) (N := 11) hx hb hts iX9_failed_X9 tyX9 tyX9_ok nmX9 hown hK hP hD hS (zk_lt (rfl : zk 0 = 8) (by decide)) (zx_8 (rfl : zk 0 = 8)) rfl 10 (by decide) kX9_failed_f69 rfl rfl rfl rfl (Nat.le_of_ble_eq_true rfl) (zx_8 (rfl : zk 0 = 8)) dX9_failed_2 (fun H locs hP hD hS => ?_)
  have hP : va_P D vwCl (zW (zx cI cS cP ad) 41 ad σ1) H := by rw [eσ1]; exact hP
  have hD : va_D A (zW (zx cI cS cP ad) 41 ad σ1) := by rw [eσ1]; exact hD
  refine lv_bipush (v := (-10 : Int32)) hx hb dX9_failed_5 (by decide) ?_
  refine lv_iload_n hx hb dX9_failed_7 rfl (lv_at hl 1 rfl) ?_
  refine lv_isub hx hb dX9_failed_8 ?_
  exact z_iret hx hb hr hlocks hN hK hP hD hS hF dX9_failed_9
theorem kX9_province_f20 : Cond.fieldLink RX9 20 "LeastAsked" "now" "LLeastAsked$Province;" ∈ wsX9_province := by decide +kernel
theorem kX9_province_f62 : Cond.fieldLink RX9 62 "LeastAsked" "questions" "I" ∈ wsX9_province := by decide +kernel
theorem kX9_province_f66 : Cond.fieldLink RX9 66 "LeastAsked" "brought" "I" ∈ wsX9_province := by decide +kernel
theorem kX9_province_f51 : Cond.fieldLink RX9 51 "LeastAsked" "readings" "LLeastAsked$Readings;" ∈ wsX9_province := by decide +kernel
theorem kX9_province_f101 : Cond.fieldLink RX9 101 "LeastAsked$Readings" "count" "I" ∈ wsX9_province := by decide +kernel
theorem kX9_province_f104 : Cond.fieldLink RX9 104 "LeastAsked$Province" "count" "I" ∈ wsX9_province := by decide +kernel
theorem kX9_province_f69 : Cond.fieldLink RX9 69 "LeastAsked" "lastFault" "I" ∈ wsX9_province := by decide +kernel
theorem kX9_province_f13 : Cond.fieldLink RX9 13 "LeastAsked" "sheets" "[LLeastAsked$Sheet;" ∈ wsX9_province := by decide +kernel
theorem iX9_province_X9 : ∀ w ∈ u_ws RX9 TX9 11, w ∈ wsX9_province := fun _ h => List.mem_cons_of_mem _ (List.mem_append_left _ (List.mem_append_left _ (List.mem_append_left _ (List.mem_append_left _ (List.mem_append_right _ h)))))
theorem iX9_province_X5 : ∀ w ∈ u_ws RX5 TX5 4, w ∈ wsX9_province := fun _ h => List.mem_cons_of_mem _ (List.mem_append_left _ (List.mem_append_left _ (List.mem_append_left _ (List.mem_append_right _ h))))
theorem iX9_province_X4 : ∀ w ∈ u_ws RX4 TX4 3, w ∈ wsX9_province := fun _ h => List.mem_cons_of_mem _ (List.mem_append_left _ (List.mem_append_left _ (List.mem_append_right _ h)))
set_option maxHeartbeats 4000000 in
set_option maxRecDepth 100000 in
theorem CX9_province (l : Launch) (D : va_G) (cI cS cP : ClassId) (ad : Nat → Nat) (A : Nat → Prop) (n : Nat) (σ σ' : zMem) (r0 : Int32) (p1 : Int32) (p2 : Int32) (p3 : Int32) (p4 : Int32) (hF : FX9_province n σ p1 p2 p3 p4 = some (r0, σ')) : Met l yX9_province wsX9_province ({ frames := 3, cells := 0, slots := 0, locals := 65 } : Room) (va_Pc [.ref (ad 0), .int p1, .int p2, .int p3, .int p4] (zB (zx cI cS cP ad) 41 ad D (zty cI cS cP) A σ)) (va_Qi (fun r u => r = r0 ∧ u = σ') (zB (zx cI cS cP ad) 41 ad D (zty cI cS cP) A) A) 0 0 A := by
  refine Met.ofW (cc := cX9_province) (maxL := 8) (ret := (some .int)) (by decide) rfl ?_
  intro p e s m args below meth c s₁ B hml hv
  obtain ⟨rfl, hP, hK, hD, hN⟩ := hv
  have hx := B.exec
  have hb := B.bytes
  have hr := B.returns
  have hts := atoms_spec (ws := wsX9_province) B.pre
  have hown : s.vm.findClass RX9 = some m.cls := findClass_of_methodNamed B.named
  have hlocks := B.notSynchronized
  have hS : va_S A s.heap s.heap [] := va_S.rf
  have hl := lv_entry ([.ref (ad 0), .int p1, .int p2, .int p3, .int p4]) (n := 8) (Nat.le_of_ble_eq_true rfl)
  rw [lg_entry_eq]
  generalize (lg_sl ([.ref (ad 0), .int p1, .int p2, .int p3, .int p4]) ++ List.replicate (8 - (lg_sl ([.ref (ad 0), .int p1, .int p2, .int p3, .int p4])).length) Slot.unset).toArray = ls at hl ⊢
  have hl : lv_has ls 8 [(0, .ref (ad 0)), (1, .int p1), (2, .int p2), (3, .int p3), (4, .int p4)] := hl
  clear B
  have hB72 : ∀ (σ : zMem) (l1 : Int32) (l2 : Int32) (l3 : Int32) (l4 : Int32) (c5 : Nat) (l6 : Int32), zk c5 = 6 → ∀ (H : Heap) (locs : List Loc) (ls : Array Slot), BX9_province_72 n σ l1 l2 l3 l4 c5 l6 = some (r0, σ') → va_P D vwCl (zW (zx cI cS cP ad) 41 ad σ) H → va_D A (zW (zx cI cS cP ad) 41 ad σ) → va_S A s.heap H locs → lv_has ls 8 [(0, .ref (ad 0)), (1, .int l1), (2, .int l2), (3, .int l3), (4, .int l4), (5, .ref (ad c5)), (6, .int l6)] → W p l e (headSpec wsX9_province ({ frames := 3, cells := 0, slots := 0, locals := 65 } : Room)).room s m ([.ref (ad 0), .int p1, .int p2, .int p3, .int p4] : List Value).toArray below meth c H locs 0 0 (MQ below (va_Qi (fun r u => r = r0 ∧ u = σ') (zB (zx cI cS cP ad) 41 ad D (zty cI cS cP) A) A) ([.ref (ad 0), .int p1, .int p2, .int p3, .int p4] : List Value).toArray s 0 0 A) (F0 m 72 ls []) := by
    intro σ l1 l2 l3 l4 c5 l6 hc5 H locs ls hF hP hD hS hl
    unfold BX9_province_72 at hF
    refine lv_iload hx hb dX9_province_72 (lv_at hl 6 rfl) ?_
    refine lv_if_eq (tgt := 84) hx hb dX9_province_74 (by decide) (fun b1 => ?_) (fun b1 => ?_)
    · have hF := zif_t b1 hF
      refine lv_aload hx hb dX9_province_84 (lv_at hl 5 rfl) ?_
      refine lv_iload_n hx hb dX9_province_86 rfl (lv_at hl 3 rfl) ?_
      refine lv_iload hx hb dX9_province_87 (lv_at hl 4 rfl) ?_
      obtain ⟨r3, σ2, hC4, hF⟩ := zbd_inv hF
      refine z_calli (va_runS (As := [.ref (ad c5), .int l3, .int l4]) (rest := []) ⟨hx, hb, hml, hown, hts⟩ (CX7_firstFault l D cI cS cP ad A n σ σ2 r3 c5 l3 l4 hc5 hC4) (va_cwS 3 hts gX9_province_X7_firstFault rfl rfl rfl (by decide +kernel) ⟨Nat.le_of_ble_eq_true rfl, Nat.le_of_ble_eq_true rfl⟩) (z_preS hN hK hP hD) rfl rfl hl.1 rfl (lv_room (Nat.le_of_ble_eq_true rfl)) dX9_province_89 ⟨Nat.zero_le _, Nat.zero_le _⟩) hS (fun H locs hP hD hS => ?_)
      refine lv_istore (lv' := [(7, .int r3), (0, .ref (ad 0)), (1, .int l1), (2, .int l2), (3, .int l3), (4, .int l4), (5, .ref (ad c5)), (6, .int l6)]) hx hb dX9_province_92 hl (by decide) rfl (fun ls hl => ?_)
      refine lv_iload hx hb dX9_province_94 (lv_at hl 0 rfl) ?_
      refine lv_bipush (v := (-9 : Int32)) hx hb dX9_province_96 (by decide) ?_
      refine lv_icmp_eq (tgt := 107) hx hb dX9_province_98 (by decide) (fun b5 => ?_) (fun b5 => ?_)
      · have hF := zif_t b5 hF
        refine lv_aload hx hb dX9_province_107 (lv_at hl 6 rfl) ?_
        refine lv_iload_n hx hb dX9_province_109 rfl (lv_at hl 4 rfl) ?_
        refine lv_iload hx hb dX9_province_110 (lv_at hl 5 rfl) ?_
        refine lv_aload_n hx hb dX9_province_112 rfl (lv_at hl 1 rfl) ?_
        refine z_get (ci := 8) (C := RX9) (T := TX9) (N := 11) hx hb hts iX9_province_X9 hown hK hP (zk_lt (rfl : zk 0 = 8) (by decide)) (zx_8 (rfl : zk 0 = 8)) rfl 1 (by decide) kX9_province_f20 rfl (v := .ref (ad 10)) rfl dX9_province_113 ?_
        obtain ⟨r7, σ6, hC8, hF⟩ := zbd_inv hF
        refine z_callv (va_runS (As := [.ref (ad c5), .int l3, .int l4, .ref (ad 10)]) (rest := []) ⟨hx, hb, hml, hown, hts⟩ (CX7_read l D cI cS cP ad A n σ2 σ6 r7 c5 10 l3 l4 hc5 (rfl : zk 10 = 4) hC8) (va_cwS 4 hts gX9_province_X7_read rfl rfl rfl (by decide +kernel) ⟨Nat.le_of_ble_eq_true rfl, Nat.le_of_ble_eq_true rfl⟩) (z_preS hN hK hP hD) rfl rfl hl.1 rfl (lv_room (Nat.le_of_ble_eq_true rfl)) dX9_province_116 ⟨Nat.zero_le _, Nat.zero_le _⟩) hS (fun H locs hP hD hS => ?_)
        refine lv_aload_n hx hb dX9_province_119 rfl (lv_at hl 1 rfl) ?_
        refine lv_iconst (v := (0 : Int32)) hx hb dX9_province_120 (by decide) ?_
        obtain ⟨σ9, eσ9, hF⟩ := zlet_inv hF
        refine z_put (ci := 8) (C := RX9) (T := TX9) (N := 11) hx hb hts iX9_province_X9 tyX9 tyX9_ok nmX9 hown hK hP hD hS (zk_lt (rfl : zk 0 = 8) (by decide)) (zx_8 (rfl : zk 0 = 8)) rfl 8 (by decide) kX9_province_f62 rfl rfl rfl rfl (Nat.le_of_ble_eq_true rfl) (zx_8 (rfl : zk 0 = 8)) dX9_province_121 (fun H locs hP hD hS => ?_)
        have hP : va_P D vwCl (zW (zx cI cS cP ad) 41 ad σ9) H := by rw [eσ9]; exact hP
        have hD : va_D A (zW (zx cI cS cP ad) 41 ad σ9) := by rw [eσ9]; exact hD
        refine lv_aload_n hx hb dX9_province_124 rfl (lv_at hl 1 rfl) ?_
        refine lv_iconst (v := (0 : Int32)) hx hb dX9_province_125 (by decide) ?_
        obtain ⟨σ10, eσ10, hF⟩ := zlet_inv hF
        refine z_put (ci := 8) (C := RX9) (T := TX9) (N := 11) hx hb hts iX9_province_X9 tyX9 tyX9_ok nmX9 hown hK hP hD hS (zk_lt (rfl : zk 0 = 8) (by decide)) (zx_8 (rfl : zk 0 = 8)) rfl 9 (by decide) kX9_province_f66 rfl rfl rfl rfl (Nat.le_of_ble_eq_true rfl) (zx_8 (rfl : zk 0 = 8)) dX9_province_126 (fun H locs hP hD hS => ?_)
        have hP : va_P D vwCl (zW (zx cI cS cP ad) 41 ad σ10) H := by rw [eσ10]; exact hP
        have hD : va_D A (zW (zx cI cS cP ad) 41 ad σ10) := by rw [eσ10]; exact hD
        refine lv_aload_n hx hb dX9_province_129 rfl (lv_at hl 1 rfl) ?_
        refine z_get (ci := 8) (C := RX9) (T := TX9) (N := 11) hx hb hts iX9_province_X9 hown hK hP (zk_lt (rfl : zk 0 = 8) (by decide)) (zx_8 (rfl : zk 0 = 8)) rfl 6 (by decide) kX9_province_f51 rfl (v := .ref (ad 36)) rfl dX9_province_130 ?_
        refine lv_iconst (v := (0 : Int32)) hx hb dX9_province_133 (by decide) ?_
        obtain ⟨σ11, eσ11, hF⟩ := zlet_inv hF
        refine z_put (ci := 5) (C := RX5) (T := TX5) (N := 4) hx hb hts iX9_province_X5 tyX5 tyX5_ok nmX5 hown hK hP hD hS (zk_lt (rfl : zk 36 = 5) (by decide)) (zx_5 (rfl : zk 36 = 5)) rfl 3 (by decide) kX9_province_f101 rfl rfl rfl rfl (Nat.le_of_ble_eq_true rfl) (zx_5 (rfl : zk 36 = 5)) dX9_province_134 (fun H locs hP hD hS => ?_)
        have hP : va_P D vwCl (zW (zx cI cS cP ad) 41 ad σ11) H := by rw [eσ11]; exact hP
        have hD : va_D A (zW (zx cI cS cP ad) 41 ad σ11) := by rw [eσ11]; exact hD
        refine lv_aload_n hx hb dX9_province_137 rfl (lv_at hl 1 rfl) ?_
        refine z_get (ci := 8) (C := RX9) (T := TX9) (N := 11) hx hb hts iX9_province_X9 hown hK hP (zk_lt (rfl : zk 0 = 8) (by decide)) (zx_8 (rfl : zk 0 = 8)) rfl 1 (by decide) kX9_province_f20 rfl (v := .ref (ad 10)) rfl dX9_province_138 ?_
        refine z_get (ci := 4) (C := RX4) (T := TX4) (N := 3) hx hb hts iX9_province_X4 hown hK hP (zk_lt (rfl : zk 10 = 4) (by decide)) (zx_4 (rfl : zk 10 = 4)) rfl 2 (by decide) kX9_province_f104 rfl (v := .int (σ11 10 2)) rfl dX9_province_141 ?_
        exact z_iret hx hb hr hlocks hN hK hP hD hS hF dX9_province_144
      · have hF := zif_f b5 hF
        refine lv_bipush (v := (-100 : Int32)) hx hb dX9_province_101 (by decide) ?_
        refine lv_iload hx hb dX9_province_103 (lv_at hl 0 rfl) ?_
        refine lv_isub hx hb dX9_province_105 ?_
        exact z_iret hx hb hr hlocks hN hK hP hD hS hF dX9_province_106
    · have hF := zif_f b1 hF
      refine lv_aload_n hx hb dX9_province_77 rfl (lv_at hl 0 rfl) ?_
      refine lv_iload hx hb dX9_province_78 (lv_at hl 6 rfl) ?_
      obtain ⟨r13, σ12, hC14, hF⟩ := zbd_inv hF
      refine z_calli (va_runV (As := [.int l6]) (rest := []) ⟨hx, hb, hml, hown, hts⟩ (CX9_failed l D cI cS cP ad A n σ σ12 r13 l6 hC14) (cwV 1 hts gX9_province_X9_failed rfl rfl rfl (by decide +kernel) ⟨Nat.le_of_ble_eq_true rfl, Nat.le_of_ble_eq_true rfl⟩) (z_preV hN hK hP hD (zk_lt (rfl : zk 0 = 8) (by decide)) (zx_8 (rfl : zk 0 = 8)) rfl) rfl rfl hl.1 rfl (lv_room (Nat.le_of_ble_eq_true rfl)) dX9_province_80 ⟨Nat.zero_le _, Nat.zero_le _⟩) hS (fun H locs hP hD hS => ?_)
      exact z_iret hx hb hr hlocks hN hK hP hD hS hF dX9_province_83
  have hB53 : ∀ (σ : zMem) (l1 : Int32) (l2 : Int32) (l3 : Int32) (l4 : Int32) (c5 : Nat) (l6 : Int32), zk c5 = 6 → ∀ (H : Heap) (locs : List Loc) (ls : Array Slot), BX9_province_53 n σ l1 l2 l3 l4 c5 l6 = some (r0, σ') → va_P D vwCl (zW (zx cI cS cP ad) 41 ad σ) H → va_D A (zW (zx cI cS cP ad) 41 ad σ) → va_S A s.heap H locs → lv_has ls 8 [(0, .ref (ad 0)), (1, .int l1), (2, .int l2), (3, .int l3), (4, .int l4), (5, .ref (ad c5)), (6, .int l6)] → W p l e (headSpec wsX9_province ({ frames := 3, cells := 0, slots := 0, locals := 65 } : Room)).room s m ([.ref (ad 0), .int p1, .int p2, .int p3, .int p4] : List Value).toArray below meth c H locs 0 0 (MQ below (va_Qi (fun r u => r = r0 ∧ u = σ') (zB (zx cI cS cP ad) 41 ad D (zty cI cS cP) A) A) ([.ref (ad 0), .int p1, .int p2, .int p3, .int p4] : List Value).toArray s 0 0 A) (F0 m 53 ls []) := by
    intro σ l1 l2 l3 l4 c5 l6 hc5 H locs ls hF hP hD hS hl
    unfold BX9_province_53 at hF
    refine lv_iload hx hb dX9_province_53 (lv_at hl 6 rfl) ?_
    refine lv_if_ne (tgt := 72) hx hb dX9_province_55 (by decide) (fun b15 => ?_) (fun b15 => ?_)
    · have hF := zif_f b15 hF
      exact hB72 σ l1 l2 l3 l4 c5 l6 hc5 _ _ _ hF hP hD hS (lv_sub hl [0, 1, 2, 3, 4, 5, 6] rfl)
    · have hF := zif_t b15 hF
      refine lv_aload hx hb dX9_province_58 (lv_at hl 5 rfl) ?_
      refine lv_iload_n hx hb dX9_province_60 rfl (lv_at hl 3 rfl) ?_
      refine lv_iload hx hb dX9_province_61 (lv_at hl 4 rfl) ?_
      obtain ⟨r17, σ16, hC18, hF⟩ := zbd_inv hF
      refine z_calli (va_runV (As := [.int l3, .int l4]) (rest := []) ⟨hx, hb, hml, hown, hts⟩ (CX6_holds l D cI cS cP ad A n σ σ16 r17 c5 l3 l4 hc5 hC18) (cwV 2 hts gX9_province_X6_holds rfl rfl rfl (by decide +kernel) ⟨Nat.le_of_ble_eq_true rfl, Nat.le_of_ble_eq_true rfl⟩) (z_preV hN hK hP hD (zk_lt hc5 (by decide)) (zx_6 hc5) rfl) rfl rfl hl.1 rfl (lv_room (Nat.le_of_ble_eq_true rfl)) dX9_province_63 ⟨Nat.zero_le _, Nat.zero_le _⟩) hS (fun H locs hP hD hS => ?_)
      refine lv_if_ne (tgt := 72) hx hb dX9_province_66 (by decide) (fun b19 => ?_) (fun b19 => ?_)
      · have hF := zif_f b19 hF
        exact hB72 σ16 l1 l2 l3 l4 c5 l6 hc5 _ _ _ hF hP hD hS (lv_sub hl [0, 1, 2, 3, 4, 5, 6] rfl)
      · have hF := zif_t b19 hF
        refine lv_iconst (v := (3 : Int32)) hx hb dX9_province_69 (by decide) ?_
        refine lv_istore (lv' := [(6, .int (3 : Int32)), (0, .ref (ad 0)), (1, .int l1), (2, .int l2), (3, .int l3), (4, .int l4), (5, .ref (ad c5))]) hx hb dX9_province_70 hl (by decide) rfl (fun ls hl => ?_)
        exact hB72 σ16 l1 l2 l3 l4 c5 (3 : Int32) hc5 _ _ _ hF hP hD hS (lv_sub hl [1, 2, 3, 4, 5, 6, 0] rfl)
  unfold FX9_province at hF
  refine lv_aload_n hx hb dX9_province_0 rfl (lv_at hl 0 rfl) ?_
  refine lv_iconst (v := (0 : Int32)) hx hb dX9_province_1 (by decide) ?_
  obtain ⟨σ20, eσ20, hF⟩ := zlet_inv hF
  refine z_put (ci := 8) (C := RX9) (T := TX9) (N := 11) hx hb hts iX9_province_X9 tyX9 tyX9_ok nmX9 hown hK hP hD hS (zk_lt (rfl : zk 0 = 8) (by decide)) (zx_8 (rfl : zk 0 = 8)) rfl 10 (by decide) kX9_province_f69 rfl rfl rfl rfl (Nat.le_of_ble_eq_true rfl) (zx_8 (rfl : zk 0 = 8)) dX9_province_2 (fun H locs hP hD hS => ?_)
  have hP : va_P D vwCl (zW (zx cI cS cP ad) 41 ad σ20) H := by rw [eσ20]; exact hP
  have hD : va_D A (zW (zx cI cS cP ad) 41 ad σ20) := by rw [eσ20]; exact hD
  refine lv_iload_n hx hb dX9_province_5 rfl (lv_at hl 1 rfl) ?_
  obtain ⟨r22, σ21, hC23, hF⟩ := zbd_inv hF
  refine z_calli (va_runS (As := [.int p1]) (rest := []) ⟨hx, hb, hml, hown, hts⟩ (CX9_isSheet l D cI cS cP ad A n σ20 σ21 r22 p1 hC23) (va_cwS 1 hts gX9_province_X9_isSheet rfl rfl rfl (by decide +kernel) ⟨Nat.le_of_ble_eq_true rfl, Nat.le_of_ble_eq_true rfl⟩) (z_preS hN hK hP hD) rfl rfl hl.1 rfl (lv_room (Nat.le_of_ble_eq_true rfl)) dX9_province_6 ⟨Nat.zero_le _, Nat.zero_le _⟩) hS (fun H locs hP hD hS => ?_)
  refine lv_if_ne (tgt := 14) hx hb dX9_province_9 (by decide) (fun b24 => ?_) (fun b24 => ?_)
  · have hF := zif_f b24 hF
    refine lv_iload_n hx hb dX9_province_14 rfl (lv_at hl 2 rfl) ?_
    obtain ⟨r26, σ25, hC27, hF⟩ := zbd_inv hF
    refine z_calli (va_runS (As := [.int p2]) (rest := []) ⟨hx, hb, hml, hown, hts⟩ (CX9_isLane l D cI cS cP ad A n σ21 σ25 r26 p2 hC27) (va_cwS 1 hts gX9_province_X9_isLane rfl rfl rfl (by decide +kernel) ⟨Nat.le_of_ble_eq_true rfl, Nat.le_of_ble_eq_true rfl⟩) (z_preS hN hK hP hD) rfl rfl hl.1 rfl (lv_room (Nat.le_of_ble_eq_true rfl)) dX9_province_15 ⟨Nat.zero_le _, Nat.zero_le _⟩) hS (fun H locs hP hD hS => ?_)
    refine lv_if_ne (tgt := 24) hx hb dX9_province_18 (by decide) (fun b28 => ?_) (fun b28 => ?_)
    · have hF := zif_f b28 hF
      refine lv_aload_n hx hb dX9_province_24 rfl (lv_at hl 0 rfl) ?_
      refine z_get (ci := 8) (C := RX9) (T := TX9) (N := 11) hx hb hts iX9_province_X9 hown hK hP (zk_lt (rfl : zk 0 = 8) (by decide)) (zx_8 (rfl : zk 0 = 8)) rfl 0 (by decide) kX9_province_f13 rfl (v := .ref (ad 1)) rfl dX9_province_25 ?_
      refine lv_iload_n hx hb dX9_province_28 rfl (lv_at hl 1 rfl) ?_
      obtain ⟨g29, hF⟩ := zgd_inv hF
      refine z_aldq hx hb hK hP 1 (zk_lt (rfl : zk 1 = 21) (by decide)) (zx_21 (rfl : zk 1 = 21)) rfl g29 dX9_province_29 ?_
      refine lv_astore (lv' := [(5, .ref (ad (2 + (p1 : Int32).toNatClampNeg))), (0, .ref (ad 0)), (1, .int p1), (2, .int p2), (3, .int p3), (4, .int p4)]) hx hb dX9_province_30 hl (by decide) rfl (fun ls hl => ?_)
      refine lv_aload hx hb dX9_province_32 (lv_at hl 0 rfl) ?_
      refine lv_iload_n hx hb dX9_province_34 rfl (lv_at hl 3 rfl) ?_
      obtain ⟨r31, σ30, hC32, hF⟩ := zbd_inv hF
      refine z_calli (va_runV (As := [.int p2]) (rest := []) ⟨hx, hb, hml, hown, hts⟩ (CX6_faultAs l D cI cS cP ad A n σ25 σ30 r31 (2 + (p1 : Int32).toNatClampNeg) p2 (zk_21s (rfl : zk 1 = 21) g29) hC32) (cwV 1 hts gX9_province_X6_faultAs rfl rfl rfl (by decide +kernel) ⟨Nat.le_of_ble_eq_true rfl, Nat.le_of_ble_eq_true rfl⟩) (z_preV hN hK hP hD (zk_lt (zk_21s (rfl : zk 1 = 21) g29) (by decide)) (zx_6 (zk_21s (rfl : zk 1 = 21) g29)) rfl) rfl rfl hl.1 rfl (lv_room (Nat.le_of_ble_eq_true rfl)) dX9_province_35 ⟨Nat.zero_le _, Nat.zero_le _⟩) hS (fun H locs hP hD hS => ?_)
      refine lv_istore (lv' := [(6, .int r31), (5, .ref (ad (2 + (p1 : Int32).toNatClampNeg))), (0, .ref (ad 0)), (1, .int p1), (2, .int p2), (3, .int p3), (4, .int p4)]) hx hb dX9_province_38 hl (by decide) rfl (fun ls hl => ?_)
      refine lv_iload hx hb dX9_province_40 (lv_at hl 0 rfl) ?_
      refine lv_if_ne (tgt := 53) hx hb dX9_province_42 (by decide) (fun b33 => ?_) (fun b33 => ?_)
      · have hF := zif_f b33 hF
        exact hB53 σ30 p1 p2 p3 p4 (2 + (p1 : Int32).toNatClampNeg) r31 (zk_21s (rfl : zk 1 = 21) g29) _ _ _ hF hP hD hS (lv_sub hl [2, 3, 4, 5, 6, 1, 0] rfl)
      · have hF := zif_t b33 hF
        refine lv_iload hx hb dX9_province_45 (lv_at hl 6 rfl) ?_
        refine lv_if_ge (tgt := 53) hx hb dX9_province_47 (by decide) (fun b34 => ?_) (fun b34 => ?_)
        · have hF := zif_t b34 hF
          exact hB53 σ30 p1 p2 p3 p4 (2 + (p1 : Int32).toNatClampNeg) r31 (zk_21s (rfl : zk 1 = 21) g29) _ _ _ hF hP hD hS (lv_sub hl [2, 3, 4, 5, 6, 1, 0] rfl)
        · have hF := zif_f b34 hF
          refine lv_iconst (v := (4 : Int32)) hx hb dX9_province_50 (by decide) ?_
          refine lv_istore (lv' := [(6, .int (4 : Int32)), (5, .ref (ad (2 + (p1 : Int32).toNatClampNeg))), (0, .ref (ad 0)), (1, .int p1), (2, .int p2), (3, .int p3), (4, .int p4)]) hx hb dX9_province_51 hl (by decide) rfl (fun ls hl => ?_)
          exact hB53 σ30 p1 p2 p3 p4 (2 + (p1 : Int32).toNatClampNeg) (4 : Int32) (zk_21s (rfl : zk 1 = 21) g29) _ _ _ hF hP hD hS (lv_sub hl [2, 3, 4, 5, 6, 1, 0] rfl)
    · have hF := zif_t b28 hF
      refine lv_bipush (v := (-2 : Int32)) hx hb dX9_province_21 (by decide) ?_
      exact z_iret hx hb hr hlocks hN hK hP hD hS hF dX9_province_23
  · have hF := zif_t b24 hF
    refine lv_iconst (v := (-1 : Int32)) hx hb dX9_province_12 (by decide) ?_
    exact z_iret hx hb hr hlocks hN hK hP hD hS hF dX9_province_13
theorem kX9_ofPerson_f20 : Cond.fieldLink RX9 20 "LeastAsked" "now" "LLeastAsked$Province;" ∈ wsX9_ofPerson := by decide +kernel
theorem kX9_ofPerson_f108 : Cond.fieldLink RX9 108 "LeastAsked$Province" "people" "[LLeastAsked$Person;" ∈ wsX9_ofPerson := by decide +kernel
theorem kX9_ofPerson_f112 : Cond.fieldLink RX9 112 "LeastAsked$Person" "kind" "I" ∈ wsX9_ofPerson := by decide +kernel
theorem kX9_ofPerson_f117 : Cond.fieldLink RX9 117 "LeastAsked$Person" "asked" "I" ∈ wsX9_ofPerson := by decide +kernel
theorem kX9_ofPerson_f120 : Cond.fieldLink RX9 120 "LeastAsked$Person" "knows" "I" ∈ wsX9_ofPerson := by decide +kernel
theorem kX9_ofPerson_f123 : Cond.fieldLink RX9 123 "LeastAsked$Person" "wit" "I" ∈ wsX9_ofPerson := by decide +kernel
theorem iX9_ofPerson_X9 : ∀ w ∈ u_ws RX9 TX9 11, w ∈ wsX9_ofPerson := fun _ h => List.mem_cons_of_mem _ (List.mem_append_left _ (List.mem_append_left _ (List.mem_append_right _ h)))
theorem iX9_ofPerson_X4 : ∀ w ∈ u_ws RX4 TX4 3, w ∈ wsX9_ofPerson := fun _ h => List.mem_cons_of_mem _ (List.mem_append_left _ (List.mem_append_right _ h))
theorem iX9_ofPerson_X2 : ∀ w ∈ u_ws RX2 TX2 4, w ∈ wsX9_ofPerson := fun _ h => List.mem_cons_of_mem _ (List.mem_append_right _ h)
set_option maxHeartbeats 4000000 in
set_option maxRecDepth 100000 in
theorem CX9_ofPerson (l : Launch) (D : va_G) (cI cS cP : ClassId) (ad : Nat → Nat) (A : Nat → Prop) (n : Nat) (σ σ' : zMem) (r0 : Int32) (p1 : Int32) (p2 : Int32) (hF : FX9_ofPerson n σ p1 p2 = some (r0, σ')) : Met l yX9_ofPerson wsX9_ofPerson ({ frames := 3, cells := 0, slots := 0, locals := 67 } : Room) (va_Pc [.ref (ad 0), .int p1, .int p2] (zB (zx cI cS cP ad) 41 ad D (zty cI cS cP) A σ)) (va_Qi (fun r u => r = r0 ∧ u = σ') (zB (zx cI cS cP ad) 41 ad D (zty cI cS cP) A) A) 0 0 A := by
  refine Met.ofW (cc := cX9_ofPerson) (maxL := 4) (ret := (some .int)) (by decide) rfl ?_
  intro p e s m args below meth c s₁ B hml hv
  obtain ⟨rfl, hP, hK, hD, hN⟩ := hv
  have hx := B.exec
  have hb := B.bytes
  have hr := B.returns
  have hts := atoms_spec (ws := wsX9_ofPerson) B.pre
  have hown : s.vm.findClass RX9 = some m.cls := findClass_of_methodNamed B.named
  have hlocks := B.notSynchronized
  have hS : va_S A s.heap s.heap [] := va_S.rf
  have hl := lv_entry ([.ref (ad 0), .int p1, .int p2]) (n := 4) (Nat.le_of_ble_eq_true rfl)
  rw [lg_entry_eq]
  generalize (lg_sl ([.ref (ad 0), .int p1, .int p2]) ++ List.replicate (4 - (lg_sl ([.ref (ad 0), .int p1, .int p2])).length) Slot.unset).toArray = ls at hl ⊢
  have hl : lv_has ls 4 [(0, .ref (ad 0)), (1, .int p1), (2, .int p2)] := hl
  clear B
  unfold FX9_ofPerson at hF
  refine lv_aload_n hx hb dX9_ofPerson_0 rfl (lv_at hl 0 rfl) ?_
  refine z_get (ci := 8) (C := RX9) (T := TX9) (N := 11) hx hb hts iX9_ofPerson_X9 hown hK hP (zk_lt (rfl : zk 0 = 8) (by decide)) (zx_8 (rfl : zk 0 = 8)) rfl 1 (by decide) kX9_ofPerson_f20 rfl (v := .ref (ad 10)) rfl dX9_ofPerson_1 ?_
  refine lv_iload_n hx hb dX9_ofPerson_4 rfl (lv_at hl 1 rfl) ?_
  obtain ⟨r2, σ1, hC3, hF⟩ := zbd_inv hF
  refine z_calli (va_runV (As := [.int p1]) (rest := []) ⟨hx, hb, hml, hown, hts⟩ (CX4_hasPerson l D cI cS cP ad A n σ σ1 r2 10 p1 (rfl : zk 10 = 4) hC3) (cwV 1 hts gX9_ofPerson_X4_hasPerson rfl rfl rfl (by decide +kernel) ⟨Nat.le_of_ble_eq_true rfl, Nat.le_of_ble_eq_true rfl⟩) (z_preV hN hK hP hD (zk_lt (rfl : zk 10 = 4) (by decide)) (zx_4 (rfl : zk 10 = 4)) rfl) rfl rfl hl.1 rfl (lv_room (Nat.le_of_ble_eq_true rfl)) dX9_ofPerson_5 ⟨Nat.zero_le _, Nat.zero_le _⟩) hS (fun H locs hP hD hS => ?_)
  refine lv_if_ne (tgt := 13) hx hb dX9_ofPerson_8 (by decide) (fun b4 => ?_) (fun b4 => ?_)
  · have hF := zif_f b4 hF
    refine lv_aload_n hx hb dX9_ofPerson_13 rfl (lv_at hl 0 rfl) ?_
    refine z_get (ci := 8) (C := RX9) (T := TX9) (N := 11) hx hb hts iX9_ofPerson_X9 hown hK hP (zk_lt (rfl : zk 0 = 8) (by decide)) (zx_8 (rfl : zk 0 = 8)) rfl 1 (by decide) kX9_ofPerson_f20 rfl (v := .ref (ad 10)) rfl dX9_ofPerson_14 ?_
    refine z_get (ci := 4) (C := RX4) (T := TX4) (N := 3) hx hb hts iX9_ofPerson_X4 hown hK hP (zk_lt (rfl : zk 10 = 4) (by decide)) (zx_4 (rfl : zk 10 = 4)) rfl 1 (by decide) kX9_ofPerson_f108 rfl (v := .ref (ad 12)) rfl dX9_ofPerson_17 ?_
    refine lv_iload_n hx hb dX9_ofPerson_20 rfl (lv_at hl 1 rfl) ?_
    obtain ⟨g5, hF⟩ := zgd_inv hF
    refine z_aldq hx hb hK hP 2 (zk_lt (zk_4p (rfl : zk 10 = 4)) (by decide)) (zx_22 (zk_4p (rfl : zk 10 = 4))) rfl g5 dX9_ofPerson_21 ?_
    refine lv_astore_n (lv' := [(3, .ref (ad (13 + (p1 : Int32).toNatClampNeg))), (0, .ref (ad 0)), (1, .int p1), (2, .int p2)]) hx hb dX9_ofPerson_22 rfl hl (by decide) rfl (fun ls hl => ?_)
    refine lv_iload_n hx hb dX9_ofPerson_23 rfl (lv_at hl 3 rfl) ?_
    by_cases b6 : p2 = (0 : Int32)
    · have hF := zif_t b6 hF
      refine lv_tableIn (tgt := 64) hx hb dX9_ofPerson_24 (by rw [b6]; decide) (by rw [b6]; decide) (by rw [b6]; rfl) (by decide) ?_
      refine lv_aload_n hx hb dX9_ofPerson_64 rfl (lv_at hl 0 rfl) ?_
      refine z_get (ci := 2) (C := RX2) (T := TX2) (N := 4) hx hb hts iX9_ofPerson_X2 hown hK hP (zk_lt (zk_22p (zk_4p (rfl : zk 10 = 4)) g5) (by decide)) (zx_2 (zk_22p (zk_4p (rfl : zk 10 = 4)) g5)) rfl 0 (by decide) kX9_ofPerson_f112 rfl (v := .int (σ1 (13 + (p1 : Int32).toNatClampNeg) 0)) rfl dX9_ofPerson_65 ?_
      exact z_iret hx hb hr hlocks hN hK hP hD hS hF dX9_ofPerson_68
    · have hF := zif_f b6 hF
      by_cases b7 : p2 = (1 : Int32)
      · have hF := zif_t b7 hF
        refine lv_tableIn (tgt := 69) hx hb dX9_ofPerson_24 (by rw [b7]; decide) (by rw [b7]; decide) (by rw [b7]; rfl) (by decide) ?_
        refine lv_aload_n hx hb dX9_ofPerson_69 rfl (lv_at hl 0 rfl) ?_
        refine z_get (ci := 2) (C := RX2) (T := TX2) (N := 4) hx hb hts iX9_ofPerson_X2 hown hK hP (zk_lt (zk_22p (zk_4p (rfl : zk 10 = 4)) g5) (by decide)) (zx_2 (zk_22p (zk_4p (rfl : zk 10 = 4)) g5)) rfl 1 (by decide) kX9_ofPerson_f117 rfl (v := .int (σ1 (13 + (p1 : Int32).toNatClampNeg) 1)) rfl dX9_ofPerson_70 ?_
        exact z_iret hx hb hr hlocks hN hK hP hD hS hF dX9_ofPerson_73
      · have hF := zif_f b7 hF
        by_cases b8 : p2 = (2 : Int32)
        · have hF := zif_t b8 hF
          refine lv_tableIn (tgt := 74) hx hb dX9_ofPerson_24 (by rw [b8]; decide) (by rw [b8]; decide) (by rw [b8]; rfl) (by decide) ?_
          refine lv_aload_n hx hb dX9_ofPerson_74 rfl (lv_at hl 0 rfl) ?_
          refine z_get (ci := 2) (C := RX2) (T := TX2) (N := 4) hx hb hts iX9_ofPerson_X2 hown hK hP (zk_lt (zk_22p (zk_4p (rfl : zk 10 = 4)) g5) (by decide)) (zx_2 (zk_22p (zk_4p (rfl : zk 10 = 4)) g5)) rfl 2 (by decide) kX9_ofPerson_f120 rfl (v := .int (σ1 (13 + (p1 : Int32).toNatClampNeg) 2)) rfl dX9_ofPerson_75 ?_
          exact z_iret hx hb hr hlocks hN hK hP hD hS hF dX9_ofPerson_78
        · have hF := zif_f b8 hF
          by_cases b9 : p2 = (3 : Int32)
          · have hF := zif_t b9 hF
            refine lv_tableIn (tgt := 79) hx hb dX9_ofPerson_24 (by rw [b9]; decide) (by rw [b9]; decide) (by rw [b9]; rfl) (by decide) ?_
            refine lv_aload_n hx hb dX9_ofPerson_79 rfl (lv_at hl 0 rfl) ?_
            refine z_get (ci := 2) (C := RX2) (T := TX2) (N := 4) hx hb hts iX9_ofPerson_X2 hown hK hP (zk_lt (zk_22p (zk_4p (rfl : zk 10 = 4)) g5) (by decide)) (zx_2 (zk_22p (zk_4p (rfl : zk 10 = 4)) g5)) rfl 3 (by decide) kX9_ofPerson_f123 rfl (v := .int (σ1 (13 + (p1 : Int32).toNatClampNeg) 3)) rfl dX9_ofPerson_80 ?_
            exact z_iret hx hb hr hlocks hN hK hP hD hS hF dX9_ofPerson_83
          · have hF := zif_f b9 hF
            by_cases b10 : p2 = (4 : Int32)
            · have hF := zif_t b10 hF
              refine lv_tableIn (tgt := 84) hx hb dX9_ofPerson_24 (by rw [b10]; decide) (by rw [b10]; decide) (by rw [b10]; rfl) (by decide) ?_
              refine lv_aload_n hx hb dX9_ofPerson_84 rfl (lv_at hl 0 rfl) ?_
              obtain ⟨r12, σ11, hC13, hF⟩ := zbd_inv hF
              refine z_calli (va_runV (As := []) (rest := []) ⟨hx, hb, hml, hown, hts⟩ (CX2_saying l D cI cS cP ad A n σ1 σ11 r12 (13 + (p1 : Int32).toNatClampNeg) (zk_22p (zk_4p (rfl : zk 10 = 4)) g5) hC13) (cwV 0 hts gX9_ofPerson_X2_saying rfl rfl rfl (by decide +kernel) ⟨Nat.le_of_ble_eq_true rfl, Nat.le_of_ble_eq_true rfl⟩) (z_preV hN hK hP hD (zk_lt (zk_22p (zk_4p (rfl : zk 10 = 4)) g5) (by decide)) (zx_2 (zk_22p (zk_4p (rfl : zk 10 = 4)) g5)) rfl) rfl rfl hl.1 rfl (lv_room (Nat.le_of_ble_eq_true rfl)) dX9_ofPerson_85 ⟨Nat.zero_le _, Nat.zero_le _⟩) hS (fun H locs hP hD hS => ?_)
              exact z_iret hx hb hr hlocks hN hK hP hD hS hF dX9_ofPerson_88
            · have hF := zif_f b10 hF
              by_cases b14 : p2 = (5 : Int32)
              · have hF := zif_t b14 hF
                refine lv_tableIn (tgt := 89) hx hb dX9_ofPerson_24 (by rw [b14]; decide) (by rw [b14]; decide) (by rw [b14]; rfl) (by decide) ?_
                refine lv_aload_n hx hb dX9_ofPerson_89 rfl (lv_at hl 1 rfl) ?_
                refine z_get (ci := 8) (C := RX9) (T := TX9) (N := 11) hx hb hts iX9_ofPerson_X9 hown hK hP (zk_lt (rfl : zk 0 = 8) (by decide)) (zx_8 (rfl : zk 0 = 8)) rfl 1 (by decide) kX9_ofPerson_f20 rfl (v := .ref (ad 10)) rfl dX9_ofPerson_90 ?_
                refine lv_iload_n hx hb dX9_ofPerson_93 rfl (lv_at hl 2 rfl) ?_
                obtain ⟨r16, σ15, hC17, hF⟩ := zbd_inv hF
                refine z_calli (va_runV (As := [.int p1]) (rest := []) ⟨hx, hb, hml, hown, hts⟩ (CX4_placeOf l D cI cS cP ad A n σ1 σ15 r16 10 p1 (rfl : zk 10 = 4) hC17) (cwV 1 hts gX9_ofPerson_X4_placeOf rfl rfl rfl (by decide +kernel) ⟨Nat.le_of_ble_eq_true rfl, Nat.le_of_ble_eq_true rfl⟩) (z_preV hN hK hP hD (zk_lt (rfl : zk 10 = 4) (by decide)) (zx_4 (rfl : zk 10 = 4)) rfl) rfl rfl hl.1 rfl (lv_room (Nat.le_of_ble_eq_true rfl)) dX9_ofPerson_94 ⟨Nat.zero_le _, Nat.zero_le _⟩) hS (fun H locs hP hD hS => ?_)
                exact z_iret hx hb hr hlocks hN hK hP hD hS hF dX9_ofPerson_97
              · have hF := zif_f b14 hF
                refine lv_tableOut (tgt := 98) hx hb dX9_ofPerson_24 (by have nb6 := lv_neT b6 (a := 0) (by decide); have nb7 := lv_neT b7 (a := 1) (by decide); have nb8 := lv_neT b8 (a := 2) (by decide); have nb9 := lv_neT b9 (a := 3) (by decide); have nb10 := lv_neT b10 (a := 4) (by decide); have nb14 := lv_neT b14 (a := 5) (by decide); omega) (by decide) ?_
                refine lv_bipush (v := (-2 : Int32)) hx hb dX9_ofPerson_98 (by decide) ?_
                exact z_iret hx hb hr hlocks hN hK hP hD hS hF dX9_ofPerson_100
  · have hF := zif_t b4 hF
    refine lv_iconst (v := (-1 : Int32)) hx hb dX9_ofPerson_11 (by decide) ?_
    exact z_iret hx hb hr hlocks hN hK hP hD hS hF dX9_ofPerson_12
theorem kX9_worth_f20 : Cond.fieldLink RX9 20 "LeastAsked" "now" "LLeastAsked$Province;" ∈ wsX9_worth := by decide +kernel
theorem kX9_worth_f136 : Cond.fieldLink RX9 136 "LeastAsked$Province" "worths" "[I" ∈ wsX9_worth := by decide +kernel
theorem iX9_worth_X9 : ∀ w ∈ u_ws RX9 TX9 11, w ∈ wsX9_worth := fun _ h => List.mem_cons_of_mem _ (List.mem_append_left _ (List.mem_append_right _ h))
theorem iX9_worth_X4 : ∀ w ∈ u_ws RX4 TX4 3, w ∈ wsX9_worth := fun _ h => List.mem_cons_of_mem _ (List.mem_append_right _ h)
set_option maxHeartbeats 4000000 in
set_option maxRecDepth 100000 in
theorem CX9_worth (l : Launch) (D : va_G) (cI cS cP : ClassId) (ad : Nat → Nat) (A : Nat → Prop) (n : Nat) (σ σ' : zMem) (r0 : Int32) (p1 : Int32) (hF : FX9_worth n σ p1 = some (r0, σ')) : Met l yX9_worth wsX9_worth ({ frames := 2, cells := 0, slots := 0, locals := 42 } : Room) (va_Pc [.ref (ad 0), .int p1] (zB (zx cI cS cP ad) 41 ad D (zty cI cS cP) A σ)) (va_Qi (fun r u => r = r0 ∧ u = σ') (zB (zx cI cS cP ad) 41 ad D (zty cI cS cP) A) A) 0 0 A := by
  refine Met.ofW (cc := cX9_worth) (maxL := 2) (ret := (some .int)) (by decide) rfl ?_
  intro p e s m args below meth c s₁ B hml hv
  obtain ⟨rfl, hP, hK, hD, hN⟩ := hv
  have hx := B.exec
  have hb := B.bytes
  have hr := B.returns
  have hts := atoms_spec (ws := wsX9_worth) B.pre
  have hown : s.vm.findClass RX9 = some m.cls := findClass_of_methodNamed B.named
  have hlocks := B.notSynchronized
  have hS : va_S A s.heap s.heap [] := va_S.rf
  have hl := lv_entry ([.ref (ad 0), .int p1]) (n := 2) (Nat.le_of_ble_eq_true rfl)
  rw [lg_entry_eq]
  generalize (lg_sl ([.ref (ad 0), .int p1]) ++ List.replicate (2 - (lg_sl ([.ref (ad 0), .int p1])).length) Slot.unset).toArray = ls at hl ⊢
  have hl : lv_has ls 2 [(0, .ref (ad 0)), (1, .int p1)] := hl
  clear B
  unfold FX9_worth at hF
  refine lv_aload_n hx hb dX9_worth_0 rfl (lv_at hl 0 rfl) ?_
  refine z_get (ci := 8) (C := RX9) (T := TX9) (N := 11) hx hb hts iX9_worth_X9 hown hK hP (zk_lt (rfl : zk 0 = 8) (by decide)) (zx_8 (rfl : zk 0 = 8)) rfl 1 (by decide) kX9_worth_f20 rfl (v := .ref (ad 10)) rfl dX9_worth_1 ?_
  refine lv_iload_n hx hb dX9_worth_4 rfl (lv_at hl 1 rfl) ?_
  obtain ⟨r2, σ1, hC3, hF⟩ := zbd_inv hF
  refine z_calli (va_runV (As := [.int p1]) (rest := []) ⟨hx, hb, hml, hown, hts⟩ (CX4_hasMatter l D cI cS cP ad A n σ σ1 r2 10 p1 (rfl : zk 10 = 4) hC3) (cwV 1 hts gX9_worth_X4_hasMatter rfl rfl rfl (by decide +kernel) ⟨Nat.le_of_ble_eq_true rfl, Nat.le_of_ble_eq_true rfl⟩) (z_preV hN hK hP hD (zk_lt (rfl : zk 10 = 4) (by decide)) (zx_4 (rfl : zk 10 = 4)) rfl) rfl rfl hl.1 rfl (lv_room (Nat.le_of_ble_eq_true rfl)) dX9_worth_5 ⟨Nat.zero_le _, Nat.zero_le _⟩) hS (fun H locs hP hD hS => ?_)
  refine lv_if_eq (tgt := 23) hx hb dX9_worth_8 (by decide) (fun b4 => ?_) (fun b4 => ?_)
  · have hF := zif_t b4 hF
    refine lv_iconst (v := (-1 : Int32)) hx hb dX9_worth_23 (by decide) ?_
    exact z_iret hx hb hr hlocks hN hK hP hD hS hF dX9_worth_24
  · have hF := zif_f b4 hF
    refine lv_aload_n hx hb dX9_worth_11 rfl (lv_at hl 0 rfl) ?_
    refine z_get (ci := 8) (C := RX9) (T := TX9) (N := 11) hx hb hts iX9_worth_X9 hown hK hP (zk_lt (rfl : zk 0 = 8) (by decide)) (zx_8 (rfl : zk 0 = 8)) rfl 1 (by decide) kX9_worth_f20 rfl (v := .ref (ad 10)) rfl dX9_worth_12 ?_
    refine z_get (ci := 4) (C := RX4) (T := TX4) (N := 3) hx hb hts iX9_worth_X4 hown hK hP (zk_lt (rfl : zk 10 = 4) (by decide)) (zx_4 (rfl : zk 10 = 4)) rfl 0 (by decide) kX9_worth_f136 rfl (v := .ref (ad 11)) rfl dX9_worth_15 ?_
    refine lv_iload_n hx hb dX9_worth_18 rfl (lv_at hl 1 rfl) ?_
    obtain ⟨g5, hF⟩ := zgd_inv hF
    refine z_iald hx hb hK hP (zk_lt (zk_4w (rfl : zk 10 = 4)) (by decide)) (zx_103 (zk_4w (rfl : zk 10 = 4))) rfl g5 dX9_worth_19 ?_
    refine lv_goto (tgt := 24) hx hb dX9_worth_20 (by decide) ?_
    exact z_iret hx hb hr hlocks hN hK hP hD hS hF dX9_worth_24
theorem kX9_weigh_f20 : Cond.fieldLink RX9 20 "LeastAsked" "now" "LLeastAsked$Province;" ∈ wsX9_weigh := by decide +kernel
theorem kX9_weigh_f136 : Cond.fieldLink RX9 136 "LeastAsked$Province" "worths" "[I" ∈ wsX9_weigh := by decide +kernel
theorem iX9_weigh_X9 : ∀ w ∈ u_ws RX9 TX9 11, w ∈ wsX9_weigh := fun _ h => List.mem_cons_of_mem _ (List.mem_append_left _ (List.mem_append_right _ h))
theorem iX9_weigh_X4 : ∀ w ∈ u_ws RX4 TX4 3, w ∈ wsX9_weigh := fun _ h => List.mem_cons_of_mem _ (List.mem_append_right _ h)
set_option maxHeartbeats 4000000 in
set_option maxRecDepth 100000 in
theorem CX9_weigh (l : Launch) (D : va_G) (cI cS cP : ClassId) (ad : Nat → Nat) (A : Nat → Prop) (n : Nat) (σ σ' : zMem) (r0 : Int32) (p1 : Int32) (p2 : Int32) (hF : FX9_weigh n σ p1 p2 = some (r0, σ')) : Met l yX9_weigh wsX9_weigh ({ frames := 2, cells := 0, slots := 0, locals := 42 } : Room) (va_Pc [.ref (ad 0), .int p1, .int p2] (zB (zx cI cS cP ad) 41 ad D (zty cI cS cP) A σ)) (va_Qi (fun r u => r = r0 ∧ u = σ') (zB (zx cI cS cP ad) 41 ad D (zty cI cS cP) A) A) 0 0 A := by
  refine Met.ofW (cc := cX9_weigh) (maxL := 4) (ret := (some .int)) (by decide) rfl ?_
  intro p e s m args below meth c s₁ B hml hv
  obtain ⟨rfl, hP, hK, hD, hN⟩ := hv
  have hx := B.exec
  have hb := B.bytes
  have hr := B.returns
  have hts := atoms_spec (ws := wsX9_weigh) B.pre
  have hown : s.vm.findClass RX9 = some m.cls := findClass_of_methodNamed B.named
  have hlocks := B.notSynchronized
  have hS : va_S A s.heap s.heap [] := va_S.rf
  have hl := lv_entry ([.ref (ad 0), .int p1, .int p2]) (n := 4) (Nat.le_of_ble_eq_true rfl)
  rw [lg_entry_eq]
  generalize (lg_sl ([.ref (ad 0), .int p1, .int p2]) ++ List.replicate (4 - (lg_sl ([.ref (ad 0), .int p1, .int p2])).length) Slot.unset).toArray = ls at hl ⊢
  have hl : lv_has ls 4 [(0, .ref (ad 0)), (1, .int p1), (2, .int p2)] := hl
  clear B
  unfold FX9_weigh at hF
  refine lv_aload_n hx hb dX9_weigh_0 rfl (lv_at hl 0 rfl) ?_
  refine z_get (ci := 8) (C := RX9) (T := TX9) (N := 11) hx hb hts iX9_weigh_X9 hown hK hP (zk_lt (rfl : zk 0 = 8) (by decide)) (zx_8 (rfl : zk 0 = 8)) rfl 1 (by decide) kX9_weigh_f20 rfl (v := .ref (ad 10)) rfl dX9_weigh_1 ?_
  refine lv_iload_n hx hb dX9_weigh_4 rfl (lv_at hl 1 rfl) ?_
  obtain ⟨r2, σ1, hC3, hF⟩ := zbd_inv hF
  refine z_calli (va_runV (As := [.int p1]) (rest := []) ⟨hx, hb, hml, hown, hts⟩ (CX4_hasMatter l D cI cS cP ad A n σ σ1 r2 10 p1 (rfl : zk 10 = 4) hC3) (cwV 1 hts gX9_weigh_X4_hasMatter rfl rfl rfl (by decide +kernel) ⟨Nat.le_of_ble_eq_true rfl, Nat.le_of_ble_eq_true rfl⟩) (z_preV hN hK hP hD (zk_lt (rfl : zk 10 = 4) (by decide)) (zx_4 (rfl : zk 10 = 4)) rfl) rfl rfl hl.1 rfl (lv_room (Nat.le_of_ble_eq_true rfl)) dX9_weigh_5 ⟨Nat.zero_le _, Nat.zero_le _⟩) hS (fun H locs hP hD hS => ?_)
  refine lv_if_ne (tgt := 13) hx hb dX9_weigh_8 (by decide) (fun b4 => ?_) (fun b4 => ?_)
  · have hF := zif_f b4 hF
    refine lv_iload_n hx hb dX9_weigh_13 rfl (lv_at hl 2 rfl) ?_
    refine lv_bipush (v := (10 : Int32)) hx hb dX9_weigh_14 (by decide) ?_
    obtain ⟨r6, σ5, hC7, hF⟩ := zbd_inv hF
    refine z_calli (va_runS (As := [.int p2, .int (10 : Int32)]) (rest := []) ⟨hx, hb, hml, hown, hts⟩ (CX9_isBelow l D cI cS cP ad A n σ1 σ5 r6 p2 (10 : Int32) hC7) (va_cwS 2 hts gX9_weigh_X9_isBelow rfl rfl rfl (by decide +kernel) ⟨Nat.le_of_ble_eq_true rfl, Nat.le_of_ble_eq_true rfl⟩) (z_preS hN hK hP hD) rfl rfl hl.1 rfl (lv_room (Nat.le_of_ble_eq_true rfl)) dX9_weigh_16 ⟨Nat.zero_le _, Nat.zero_le _⟩) hS (fun H locs hP hD hS => ?_)
    refine lv_if_ne (tgt := 25) hx hb dX9_weigh_19 (by decide) (fun b8 => ?_) (fun b8 => ?_)
    · have hF := zif_f b8 hF
      refine lv_aload_n hx hb dX9_weigh_25 rfl (lv_at hl 0 rfl) ?_
      refine z_get (ci := 8) (C := RX9) (T := TX9) (N := 11) hx hb hts iX9_weigh_X9 hown hK hP (zk_lt (rfl : zk 0 = 8) (by decide)) (zx_8 (rfl : zk 0 = 8)) rfl 1 (by decide) kX9_weigh_f20 rfl (v := .ref (ad 10)) rfl dX9_weigh_26 ?_
      refine z_get (ci := 4) (C := RX4) (T := TX4) (N := 3) hx hb hts iX9_weigh_X4 hown hK hP (zk_lt (rfl : zk 10 = 4) (by decide)) (zx_4 (rfl : zk 10 = 4)) rfl 0 (by decide) kX9_weigh_f136 rfl (v := .ref (ad 11)) rfl dX9_weigh_29 ?_
      refine lv_iload_n hx hb dX9_weigh_32 rfl (lv_at hl 1 rfl) ?_
      obtain ⟨g9, hF⟩ := zgd_inv hF
      refine z_iald hx hb hK hP (zk_lt (zk_4w (rfl : zk 10 = 4)) (by decide)) (zx_103 (zk_4w (rfl : zk 10 = 4))) rfl g9 dX9_weigh_33 ?_
      refine lv_istore_n (lv' := [(3, .int (σ5 11 (p1 : Int32).toNatClampNeg)), (0, .ref (ad 0)), (1, .int p1), (2, .int p2)]) hx hb dX9_weigh_34 rfl hl (by decide) rfl (fun ls hl => ?_)
      refine lv_aload_n hx hb dX9_weigh_35 rfl (lv_at hl 1 rfl) ?_
      refine z_get (ci := 8) (C := RX9) (T := TX9) (N := 11) hx hb hts iX9_weigh_X9 hown hK hP (zk_lt (rfl : zk 0 = 8) (by decide)) (zx_8 (rfl : zk 0 = 8)) rfl 1 (by decide) kX9_weigh_f20 rfl (v := .ref (ad 10)) rfl dX9_weigh_36 ?_
      refine z_get (ci := 4) (C := RX4) (T := TX4) (N := 3) hx hb hts iX9_weigh_X4 hown hK hP (zk_lt (rfl : zk 10 = 4) (by decide)) (zx_4 (rfl : zk 10 = 4)) rfl 0 (by decide) kX9_weigh_f136 rfl (v := .ref (ad 11)) rfl dX9_weigh_39 ?_
      refine lv_iload_n hx hb dX9_weigh_42 rfl (lv_at hl 2 rfl) ?_
      refine lv_iload_n hx hb dX9_weigh_43 rfl (lv_at hl 3 rfl) ?_
      obtain ⟨g10, hF⟩ := zgd_inv hF
      obtain ⟨σ11, eσ11, hF⟩ := zlet_inv hF
      refine z_iast hx hb hK hP hD hS (zk_lt (zk_4w (rfl : zk 10 = 4)) (by decide)) (fun _ => (zx_103 (zk_4w (rfl : zk 10 = 4)))) rfl g10 dX9_weigh_44 (fun H locs hP hD hS => ?_)
      have hP : va_P D vwCl (zW (zx cI cS cP ad) 41 ad σ11) H := by rw [eσ11]; exact hP
      have hD : va_D A (zW (zx cI cS cP ad) 41 ad σ11) := by rw [eσ11]; exact hD
      refine lv_iload_n hx hb dX9_weigh_45 rfl (lv_at hl 0 rfl) ?_
      exact z_iret hx hb hr hlocks hN hK hP hD hS hF dX9_weigh_46
    · have hF := zif_t b8 hF
      refine lv_bipush (v := (-2 : Int32)) hx hb dX9_weigh_22 (by decide) ?_
      exact z_iret hx hb hr hlocks hN hK hP hD hS hF dX9_weigh_24
  · have hF := zif_t b4 hF
    refine lv_iconst (v := (-1 : Int32)) hx hb dX9_weigh_11 (by decide) ?_
    exact z_iret hx hb hr hlocks hN hK hP hD hS hF dX9_weigh_12
