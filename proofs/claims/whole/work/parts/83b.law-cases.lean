/-! ===== the law: its cases ===== -/
set_option maxHeartbeats 8000000 in
set_option maxRecDepth 100000 in
theorem law_c12 {p : Program} {l : Launch} {e : Env} {s : State} {m : MethodId} {below : List Frame} {meth : Method} {c : Code} {b L t : Nat} {xs : Nat → Int32} {D : va_G} {cI cS cP : ClassId} {ax am : Nat → Nat} {H : Heap} {locs : List Loc} {cells slots : Nat} {ls : Array Slot} {σx σm : zMem} {Q : State → Prop} (hC : lw_Ctx p s m c b L xs D cI cS cP ax am) (hL : L ≤ 3072) (ht : 6 * t + 6 ≤ L) (hcs : cells ≤ 600000 ∧ slots ≤ 7302250) (hl : lv_has ls 4 [(3, .int (nI (6 * t))), (2, .ref (am 0)), (1, .ref (ax 0)), (0, .ref b)]) (hSt : lw_St s D cI cS cP ax am H locs σx σm) (hR : zR t σx σm) (kk : ∀ (H : Heap) (locs : List Loc) (σx σm : zMem), lw_St s D cI cS cP ax am H locs σx σm → zR (t + 1) σx σm → W p l e room_1 s m #[Value.ref b] below meth c H locs cells slots Q (F0 m 1248 ls [])) : W p l e room_1 s m #[Value.ref b] below meth c H locs cells slots Q (F0 m 580 ls []) := by
  obtain ⟨hx, hb, hml, hown, hts, hX, hbl, hK, hN, hA⟩ := hC
  have hbA : ¬ (fun q : Nat => s.heap.size ≤ q) b := Nat.not_le.mpr hbl
  obtain ⟨n, hn⟩ : ∃ n : Nat, 6000 < n := ⟨6001, Nat.lt_succ_self _⟩
  obtain ⟨r, σx', σm', f1, f2, f3⟩ := steer_e n t (by omega) (by omega) (xs (nI (6 * t) + 1).toNatClampNeg) σx σm hR
  have f1 : FX9_steer n σx (xs (nI (6 * t) + 1).toNatClampNeg) = some (r, σx') := f1
  have f2 : FX10_steer n σm (xs (nI (6 * t) + 1).toNatClampNeg) = some (r, σm') := f2
  refine lv_aload_n hx hb dL_law_580 rfl (lv_at hl 2 rfl) ?_
  refine lv_aload_n hx hb dL_law_581 rfl (lv_at hl 3 rfl) ?_
  refine lv_iload_n hx hb dL_law_582 rfl (lv_at hl 0 rfl) ?_
  refine lv_iconst (v := (1 : Int32)) hx hb dL_law_583 (by decide) ?_
  refine lv_iadd hx hb dL_law_584 ?_
  refine va_sld hx hb hX hbl hbA hSt.2.2.2.2 (lw_in 1 rfl (by omega) hL) dL_law_585 ?_
  refine lw_xi (va_runV (As := [.int (xs (nI (6 * t) + 1).toNatClampNeg)]) (rest := []) ⟨hx, hb, hml, hown, hts⟩ (CX9_steer l D cI cS cP ax (zA ax 41) n σx σx' r (xs (nI (6 * t) + 1).toNatClampNeg) f1) (cwV 1 hts gL_law_X9_steer rfl rfl rfl (by decide +kernel) ⟨Nat.le_of_ble_eq_true rfl, Nat.le_of_ble_eq_true rfl⟩) (z_preV (o := 0) hN hK hSt.1 hSt.2.1 (by decide) (zx_8 rfl) rfl) rfl rfl hl.1 rfl (lv_room (Nat.le_of_ble_eq_true rfl)) dL_law_586 ⟨hcs.1, hcs.2⟩) hA hSt (fun H locs hSt => ?_)
  refine lv_aload_n hx hb dL_law_589 rfl (lv_at hl 1 rfl) ?_
  refine lv_aload_n hx hb dL_law_590 rfl (lv_at hl 3 rfl) ?_
  refine lv_iload_n hx hb dL_law_591 rfl (lv_at hl 0 rfl) ?_
  refine lv_iconst (v := (1 : Int32)) hx hb dL_law_592 (by decide) ?_
  refine lv_iadd hx hb dL_law_593 ?_
  refine va_sld hx hb hX hbl hbA hSt.2.2.2.2 (lw_in 1 rfl (by omega) hL) dL_law_594 ?_
  refine lw_mi (va_runV (As := [.int (xs (nI (6 * t) + 1).toNatClampNeg)]) (rest := [.int r]) ⟨hx, hb, hml, hown, hts⟩ (CX10_steer l D cI cS cP am (zA am 20) n σm σm' r (xs (nI (6 * t) + 1).toNatClampNeg) f2) (cwV 1 hts gL_law_X10_steer rfl rfl rfl (by decide +kernel) ⟨Nat.le_of_ble_eq_true rfl, Nat.le_of_ble_eq_true rfl⟩) (z_preV (o := 0) hN hK hSt.2.2.1 hSt.2.2.2.1 (by decide) zm_0 rfl) rfl rfl hl.1 rfl (lv_room (Nat.le_of_ble_eq_true rfl)) dL_law_595 ⟨hcs.1, hcs.2⟩) hA hSt (fun H locs hSt => ?_)
  exact lv_icmp_eq (tgt := 1248) hx hb dL_law_598 (by decide) (fun _ => kk H locs σx' σm' hSt f3) (fun z => absurd rfl z)
set_option maxHeartbeats 8000000 in
set_option maxRecDepth 100000 in
theorem law_c13 {p : Program} {l : Launch} {e : Env} {s : State} {m : MethodId} {below : List Frame} {meth : Method} {c : Code} {b L t : Nat} {xs : Nat → Int32} {D : va_G} {cI cS cP : ClassId} {ax am : Nat → Nat} {H : Heap} {locs : List Loc} {cells slots : Nat} {ls : Array Slot} {σx σm : zMem} {Q : State → Prop} (hC : lw_Ctx p s m c b L xs D cI cS cP ax am) (hL : L ≤ 3072) (ht : 6 * t + 6 ≤ L) (hcs : cells ≤ 600000 ∧ slots ≤ 7302250) (hl : lv_has ls 4 [(3, .int (nI (6 * t))), (2, .ref (am 0)), (1, .ref (ax 0)), (0, .ref b)]) (hSt : lw_St s D cI cS cP ax am H locs σx σm) (hR : zR t σx σm) (kk : ∀ (H : Heap) (locs : List Loc) (σx σm : zMem), lw_St s D cI cS cP ax am H locs σx σm → zR (t + 1) σx σm → W p l e room_1 s m #[Value.ref b] below meth c H locs cells slots Q (F0 m 1248 ls [])) : W p l e room_1 s m #[Value.ref b] below meth c H locs cells slots Q (F0 m 603 ls []) := by
  obtain ⟨hx, hb, hml, hown, hts, hX, hbl, hK, hN, hA⟩ := hC
  have hbA : ¬ (fun q : Nat => s.heap.size ≤ q) b := Nat.not_le.mpr hbl
  obtain ⟨n, hn⟩ : ∃ n : Nat, 6000 < n := ⟨6001, Nat.lt_succ_self _⟩
  obtain ⟨r, σx', σm', f1, f2, f3⟩ := even_e n t (by omega) (by omega) σx σm hR
  have f1 : FX9_even n σx  = some (r, σx') := f1
  have f2 : FX10_even n σm  = some (r, σm') := f2
  refine lv_aload_n hx hb dL_law_603 rfl (lv_at hl 2 rfl) ?_
  refine lw_xi (va_runV (As := []) (rest := []) ⟨hx, hb, hml, hown, hts⟩ (CX9_even l D cI cS cP ax (zA ax 41) n σx σx' r  f1) (cwV 0 hts gL_law_X9_even rfl rfl rfl (by decide +kernel) ⟨Nat.le_of_ble_eq_true rfl, Nat.le_of_ble_eq_true rfl⟩) (z_preV (o := 0) hN hK hSt.1 hSt.2.1 (by decide) (zx_8 rfl) rfl) rfl rfl hl.1 rfl (lv_room (Nat.le_of_ble_eq_true rfl)) dL_law_604 ⟨hcs.1, hcs.2⟩) hA hSt (fun H locs hSt => ?_)
  refine lv_aload_n hx hb dL_law_607 rfl (lv_at hl 1 rfl) ?_
  refine lw_mi (va_runV (As := []) (rest := [.int r]) ⟨hx, hb, hml, hown, hts⟩ (CX10_even l D cI cS cP am (zA am 20) n σm σm' r  f2) (cwV 0 hts gL_law_X10_even rfl rfl rfl (by decide +kernel) ⟨Nat.le_of_ble_eq_true rfl, Nat.le_of_ble_eq_true rfl⟩) (z_preV (o := 0) hN hK hSt.2.2.1 hSt.2.2.2.1 (by decide) zm_0 rfl) rfl rfl hl.1 rfl (lv_room (Nat.le_of_ble_eq_true rfl)) dL_law_608 ⟨hcs.1, hcs.2⟩) hA hSt (fun H locs hSt => ?_)
  exact lv_icmp_eq (tgt := 1248) hx hb dL_law_611 (by decide) (fun _ => kk H locs σx' σm' hSt f3) (fun z => absurd rfl z)
set_option maxHeartbeats 8000000 in
set_option maxRecDepth 100000 in
theorem law_c14 {p : Program} {l : Launch} {e : Env} {s : State} {m : MethodId} {below : List Frame} {meth : Method} {c : Code} {b L t : Nat} {xs : Nat → Int32} {D : va_G} {cI cS cP : ClassId} {ax am : Nat → Nat} {H : Heap} {locs : List Loc} {cells slots : Nat} {ls : Array Slot} {σx σm : zMem} {Q : State → Prop} (hC : lw_Ctx p s m c b L xs D cI cS cP ax am) (hL : L ≤ 3072) (ht : 6 * t + 6 ≤ L) (hcs : cells ≤ 600000 ∧ slots ≤ 7302250) (hl : lv_has ls 4 [(3, .int (nI (6 * t))), (2, .ref (am 0)), (1, .ref (ax 0)), (0, .ref b)]) (hSt : lw_St s D cI cS cP ax am H locs σx σm) (hR : zR t σx σm) (kk : ∀ (H : Heap) (locs : List Loc) (σx σm : zMem), lw_St s D cI cS cP ax am H locs σx σm → zR (t + 1) σx σm → W p l e room_1 s m #[Value.ref b] below meth c H locs cells slots Q (F0 m 1248 ls [])) : W p l e room_1 s m #[Value.ref b] below meth c H locs cells slots Q (F0 m 616 ls []) := by
  obtain ⟨hx, hb, hml, hown, hts, hX, hbl, hK, hN, hA⟩ := hC
  have hbA : ¬ (fun q : Nat => s.heap.size ≤ q) b := Nat.not_le.mpr hbl
  obtain ⟨n, hn⟩ : ∃ n : Nat, 6000 < n := ⟨6001, Nat.lt_succ_self _⟩
  obtain ⟨r, σx', σm', f1, f2, f3⟩ := plan_e (t := t) (n := n) (p1 := (xs (nI (6 * t) + 1).toNatClampNeg)) (p2 := (xs (nI (6 * t) + 2).toNatClampNeg)) (p3 := (xs (nI (6 * t) + 3).toNatClampNeg)) (p4 := (xs (nI (6 * t) + 4).toNatClampNeg)) (p5 := (xs (nI (6 * t) + 5).toNatClampNeg)) (by omega) (by omega) σx σm hR
  have f1 : FX9_plan n σx (xs (nI (6 * t) + 1).toNatClampNeg) (xs (nI (6 * t) + 2).toNatClampNeg) (xs (nI (6 * t) + 3).toNatClampNeg) (xs (nI (6 * t) + 4).toNatClampNeg) (xs (nI (6 * t) + 5).toNatClampNeg) = some (r, σx') := f1
  have f2 : FX10_plan n σm (xs (nI (6 * t) + 1).toNatClampNeg) (xs (nI (6 * t) + 2).toNatClampNeg) (xs (nI (6 * t) + 3).toNatClampNeg) (xs (nI (6 * t) + 4).toNatClampNeg) (xs (nI (6 * t) + 5).toNatClampNeg) = some (r, σm') := f2
  refine lv_aload_n hx hb dL_law_616 rfl (lv_at hl 2 rfl) ?_
  refine lv_aload_n hx hb dL_law_617 rfl (lv_at hl 3 rfl) ?_
  refine lv_iload_n hx hb dL_law_618 rfl (lv_at hl 0 rfl) ?_
  refine lv_iconst (v := (1 : Int32)) hx hb dL_law_619 (by decide) ?_
  refine lv_iadd hx hb dL_law_620 ?_
  refine va_sld hx hb hX hbl hbA hSt.2.2.2.2 (lw_in 1 rfl (by omega) hL) dL_law_621 ?_
  refine lv_aload_n hx hb dL_law_622 rfl (lv_at hl 3 rfl) ?_
  refine lv_iload_n hx hb dL_law_623 rfl (lv_at hl 0 rfl) ?_
  refine lv_iconst (v := (2 : Int32)) hx hb dL_law_624 (by decide) ?_
  refine lv_iadd hx hb dL_law_625 ?_
  refine va_sld hx hb hX hbl hbA hSt.2.2.2.2 (lw_in 2 rfl (by omega) hL) dL_law_626 ?_
  refine lv_aload_n hx hb dL_law_627 rfl (lv_at hl 3 rfl) ?_
  refine lv_iload_n hx hb dL_law_628 rfl (lv_at hl 0 rfl) ?_
  refine lv_iconst (v := (3 : Int32)) hx hb dL_law_629 (by decide) ?_
  refine lv_iadd hx hb dL_law_630 ?_
  refine va_sld hx hb hX hbl hbA hSt.2.2.2.2 (lw_in 3 rfl (by omega) hL) dL_law_631 ?_
  refine lv_aload_n hx hb dL_law_632 rfl (lv_at hl 3 rfl) ?_
  refine lv_iload_n hx hb dL_law_633 rfl (lv_at hl 0 rfl) ?_
  refine lv_iconst (v := (4 : Int32)) hx hb dL_law_634 (by decide) ?_
  refine lv_iadd hx hb dL_law_635 ?_
  refine va_sld hx hb hX hbl hbA hSt.2.2.2.2 (lw_in 4 rfl (by omega) hL) dL_law_636 ?_
  refine lv_aload_n hx hb dL_law_637 rfl (lv_at hl 3 rfl) ?_
  refine lv_iload_n hx hb dL_law_638 rfl (lv_at hl 0 rfl) ?_
  refine lv_iconst (v := (5 : Int32)) hx hb dL_law_639 (by decide) ?_
  refine lv_iadd hx hb dL_law_640 ?_
  refine va_sld hx hb hX hbl hbA hSt.2.2.2.2 (lw_in 5 rfl (by omega) hL) dL_law_641 ?_
  refine lw_xi (va_runV (As := [.int (xs (nI (6 * t) + 1).toNatClampNeg), .int (xs (nI (6 * t) + 2).toNatClampNeg), .int (xs (nI (6 * t) + 3).toNatClampNeg), .int (xs (nI (6 * t) + 4).toNatClampNeg), .int (xs (nI (6 * t) + 5).toNatClampNeg)]) (rest := []) ⟨hx, hb, hml, hown, hts⟩ (CX9_plan l D cI cS cP ax (zA ax 41) n σx σx' r (xs (nI (6 * t) + 1).toNatClampNeg) (xs (nI (6 * t) + 2).toNatClampNeg) (xs (nI (6 * t) + 3).toNatClampNeg) (xs (nI (6 * t) + 4).toNatClampNeg) (xs (nI (6 * t) + 5).toNatClampNeg) f1) (cwV 5 hts gL_law_X9_plan rfl rfl rfl (by decide +kernel) ⟨Nat.le_of_ble_eq_true rfl, Nat.le_of_ble_eq_true rfl⟩) (z_preV (o := 0) hN hK hSt.1 hSt.2.1 (by decide) (zx_8 rfl) rfl) rfl rfl hl.1 rfl (lv_room (Nat.le_of_ble_eq_true rfl)) dL_law_642 ⟨hcs.1, hcs.2⟩) hA hSt (fun H locs hSt => ?_)
  refine lv_aload_n hx hb dL_law_645 rfl (lv_at hl 1 rfl) ?_
  refine lv_aload_n hx hb dL_law_646 rfl (lv_at hl 3 rfl) ?_
  refine lv_iload_n hx hb dL_law_647 rfl (lv_at hl 0 rfl) ?_
  refine lv_iconst (v := (1 : Int32)) hx hb dL_law_648 (by decide) ?_
  refine lv_iadd hx hb dL_law_649 ?_
  refine va_sld hx hb hX hbl hbA hSt.2.2.2.2 (lw_in 1 rfl (by omega) hL) dL_law_650 ?_
  refine lv_aload_n hx hb dL_law_651 rfl (lv_at hl 3 rfl) ?_
  refine lv_iload_n hx hb dL_law_652 rfl (lv_at hl 0 rfl) ?_
  refine lv_iconst (v := (2 : Int32)) hx hb dL_law_653 (by decide) ?_
  refine lv_iadd hx hb dL_law_654 ?_
  refine va_sld hx hb hX hbl hbA hSt.2.2.2.2 (lw_in 2 rfl (by omega) hL) dL_law_655 ?_
  refine lv_aload_n hx hb dL_law_656 rfl (lv_at hl 3 rfl) ?_
  refine lv_iload_n hx hb dL_law_657 rfl (lv_at hl 0 rfl) ?_
  refine lv_iconst (v := (3 : Int32)) hx hb dL_law_658 (by decide) ?_
  refine lv_iadd hx hb dL_law_659 ?_
  refine va_sld hx hb hX hbl hbA hSt.2.2.2.2 (lw_in 3 rfl (by omega) hL) dL_law_660 ?_
  refine lv_aload_n hx hb dL_law_661 rfl (lv_at hl 3 rfl) ?_
  refine lv_iload_n hx hb dL_law_662 rfl (lv_at hl 0 rfl) ?_
  refine lv_iconst (v := (4 : Int32)) hx hb dL_law_663 (by decide) ?_
  refine lv_iadd hx hb dL_law_664 ?_
  refine va_sld hx hb hX hbl hbA hSt.2.2.2.2 (lw_in 4 rfl (by omega) hL) dL_law_665 ?_
  refine lv_aload_n hx hb dL_law_666 rfl (lv_at hl 3 rfl) ?_
  refine lv_iload_n hx hb dL_law_667 rfl (lv_at hl 0 rfl) ?_
  refine lv_iconst (v := (5 : Int32)) hx hb dL_law_668 (by decide) ?_
  refine lv_iadd hx hb dL_law_669 ?_
  refine va_sld hx hb hX hbl hbA hSt.2.2.2.2 (lw_in 5 rfl (by omega) hL) dL_law_670 ?_
  refine lw_mi (va_runV (As := [.int (xs (nI (6 * t) + 1).toNatClampNeg), .int (xs (nI (6 * t) + 2).toNatClampNeg), .int (xs (nI (6 * t) + 3).toNatClampNeg), .int (xs (nI (6 * t) + 4).toNatClampNeg), .int (xs (nI (6 * t) + 5).toNatClampNeg)]) (rest := [.int r]) ⟨hx, hb, hml, hown, hts⟩ (CX10_plan l D cI cS cP am (zA am 20) n σm σm' r (xs (nI (6 * t) + 1).toNatClampNeg) (xs (nI (6 * t) + 2).toNatClampNeg) (xs (nI (6 * t) + 3).toNatClampNeg) (xs (nI (6 * t) + 4).toNatClampNeg) (xs (nI (6 * t) + 5).toNatClampNeg) f2) (cwV 5 hts gL_law_X10_plan rfl rfl rfl (by decide +kernel) ⟨Nat.le_of_ble_eq_true rfl, Nat.le_of_ble_eq_true rfl⟩) (z_preV (o := 0) hN hK hSt.2.2.1 hSt.2.2.2.1 (by decide) zm_0 rfl) rfl rfl hl.1 rfl (lv_room (Nat.le_of_ble_eq_true rfl)) dL_law_671 ⟨hcs.1, hcs.2⟩) hA hSt (fun H locs hSt => ?_)
  exact lv_icmp_eq (tgt := 1248) hx hb dL_law_674 (by decide) (fun _ => kk H locs σx' σm' hSt f3) (fun z => absurd rfl z)
set_option maxHeartbeats 8000000 in
set_option maxRecDepth 100000 in
theorem law_c15 {p : Program} {l : Launch} {e : Env} {s : State} {m : MethodId} {below : List Frame} {meth : Method} {c : Code} {b L t : Nat} {xs : Nat → Int32} {D : va_G} {cI cS cP : ClassId} {ax am : Nat → Nat} {H : Heap} {locs : List Loc} {cells slots : Nat} {ls : Array Slot} {σx σm : zMem} {Q : State → Prop} (hC : lw_Ctx p s m c b L xs D cI cS cP ax am) (hL : L ≤ 3072) (ht : 6 * t + 6 ≤ L) (hcs : cells ≤ 600000 ∧ slots ≤ 7302250) (hl : lv_has ls 4 [(3, .int (nI (6 * t))), (2, .ref (am 0)), (1, .ref (ax 0)), (0, .ref b)]) (hSt : lw_St s D cI cS cP ax am H locs σx σm) (hR : zR t σx σm) (kk : ∀ (H : Heap) (locs : List Loc) (σx σm : zMem), lw_St s D cI cS cP ax am H locs σx σm → zR (t + 1) σx σm → W p l e room_1 s m #[Value.ref b] below meth c H locs cells slots Q (F0 m 1248 ls [])) : W p l e room_1 s m #[Value.ref b] below meth c H locs cells slots Q (F0 m 679 ls []) := by
  obtain ⟨hx, hb, hml, hown, hts, hX, hbl, hK, hN, hA⟩ := hC
  have hbA : ¬ (fun q : Nat => s.heap.size ≤ q) b := Nat.not_le.mpr hbl
  obtain ⟨n, hn⟩ : ∃ n : Nat, 6000 < n := ⟨6001, Nat.lt_succ_self _⟩
  obtain ⟨r, σx', σm', f1, f2, f3⟩ := best_e (t := t) (n := n) (x := (xs (nI (6 * t) + 1).toNatClampNeg)) (by omega) σx σm hR
  have f1 : FX9_best n σx (xs (nI (6 * t) + 1).toNatClampNeg) = some (r, σx') := f1
  have f2 : FX10_best n σm (xs (nI (6 * t) + 1).toNatClampNeg) = some (r, σm') := f2
  refine lv_aload_n hx hb dL_law_679 rfl (lv_at hl 2 rfl) ?_
  refine lv_aload_n hx hb dL_law_680 rfl (lv_at hl 3 rfl) ?_
  refine lv_iload_n hx hb dL_law_681 rfl (lv_at hl 0 rfl) ?_
  refine lv_iconst (v := (1 : Int32)) hx hb dL_law_682 (by decide) ?_
  refine lv_iadd hx hb dL_law_683 ?_
  refine va_sld hx hb hX hbl hbA hSt.2.2.2.2 (lw_in 1 rfl (by omega) hL) dL_law_684 ?_
  refine lw_xi (va_runV (As := [.int (xs (nI (6 * t) + 1).toNatClampNeg)]) (rest := []) ⟨hx, hb, hml, hown, hts⟩ (CX9_best l D cI cS cP ax (zA ax 41) n σx σx' r (xs (nI (6 * t) + 1).toNatClampNeg) f1) (cwV 1 hts gL_law_X9_best rfl rfl rfl (by decide +kernel) ⟨Nat.le_of_ble_eq_true rfl, Nat.le_of_ble_eq_true rfl⟩) (z_preV (o := 0) hN hK hSt.1 hSt.2.1 (by decide) (zx_8 rfl) rfl) rfl rfl hl.1 rfl (lv_room (Nat.le_of_ble_eq_true rfl)) dL_law_685 ⟨hcs.1, hcs.2⟩) hA hSt (fun H locs hSt => ?_)
  refine lv_aload_n hx hb dL_law_688 rfl (lv_at hl 1 rfl) ?_
  refine lv_aload_n hx hb dL_law_689 rfl (lv_at hl 3 rfl) ?_
  refine lv_iload_n hx hb dL_law_690 rfl (lv_at hl 0 rfl) ?_
  refine lv_iconst (v := (1 : Int32)) hx hb dL_law_691 (by decide) ?_
  refine lv_iadd hx hb dL_law_692 ?_
  refine va_sld hx hb hX hbl hbA hSt.2.2.2.2 (lw_in 1 rfl (by omega) hL) dL_law_693 ?_
  refine lw_mi (va_runV (As := [.int (xs (nI (6 * t) + 1).toNatClampNeg)]) (rest := [.int r]) ⟨hx, hb, hml, hown, hts⟩ (CX10_best l D cI cS cP am (zA am 20) n σm σm' r (xs (nI (6 * t) + 1).toNatClampNeg) f2) (cwV 1 hts gL_law_X10_best rfl rfl rfl (by decide +kernel) ⟨Nat.le_of_ble_eq_true rfl, Nat.le_of_ble_eq_true rfl⟩) (z_preV (o := 0) hN hK hSt.2.2.1 hSt.2.2.2.1 (by decide) zm_0 rfl) rfl rfl hl.1 rfl (lv_room (Nat.le_of_ble_eq_true rfl)) dL_law_694 ⟨hcs.1, hcs.2⟩) hA hSt (fun H locs hSt => ?_)
  exact lv_icmp_eq (tgt := 1248) hx hb dL_law_697 (by decide) (fun _ => kk H locs σx' σm' hSt f3) (fun z => absurd rfl z)
set_option maxHeartbeats 8000000 in
set_option maxRecDepth 100000 in
theorem law_c16 {p : Program} {l : Launch} {e : Env} {s : State} {m : MethodId} {below : List Frame} {meth : Method} {c : Code} {b L t : Nat} {xs : Nat → Int32} {D : va_G} {cI cS cP : ClassId} {ax am : Nat → Nat} {H : Heap} {locs : List Loc} {cells slots : Nat} {ls : Array Slot} {σx σm : zMem} {Q : State → Prop} (hC : lw_Ctx p s m c b L xs D cI cS cP ax am) (hL : L ≤ 3072) (ht : 6 * t + 6 ≤ L) (hcs : cells ≤ 600000 ∧ slots ≤ 7302250) (hl : lv_has ls 4 [(3, .int (nI (6 * t))), (2, .ref (am 0)), (1, .ref (ax 0)), (0, .ref b)]) (hSt : lw_St s D cI cS cP ax am H locs σx σm) (hR : zR t σx σm) (kk : ∀ (H : Heap) (locs : List Loc) (σx σm : zMem), lw_St s D cI cS cP ax am H locs σx σm → zR (t + 1) σx σm → W p l e room_1 s m #[Value.ref b] below meth c H locs cells slots Q (F0 m 1248 ls [])) : W p l e room_1 s m #[Value.ref b] below meth c H locs cells slots Q (F0 m 702 ls []) := by
  obtain ⟨hx, hb, hml, hown, hts, hX, hbl, hK, hN, hA⟩ := hC
  have hbA : ¬ (fun q : Nat => s.heap.size ≤ q) b := Nat.not_le.mpr hbl
  obtain ⟨n, hn⟩ : ∃ n : Nat, 6000 < n := ⟨6001, Nat.lt_succ_self _⟩
  obtain ⟨r, σx', σm', f1, f2, f3⟩ := reading_e n t (xs (nI (6 * t) + 1).toNatClampNeg) (xs (nI (6 * t) + 2).toNatClampNeg) (xs (nI (6 * t) + 3).toNatClampNeg) σx σm hR
  have f1 : FX9_reading n σx (xs (nI (6 * t) + 1).toNatClampNeg) (xs (nI (6 * t) + 2).toNatClampNeg) (xs (nI (6 * t) + 3).toNatClampNeg) = some (r, σx') := f1
  have f2 : FX10_reading n σm (xs (nI (6 * t) + 1).toNatClampNeg) (xs (nI (6 * t) + 2).toNatClampNeg) (xs (nI (6 * t) + 3).toNatClampNeg) = some (r, σm') := f2
  refine lv_aload_n hx hb dL_law_702 rfl (lv_at hl 2 rfl) ?_
  refine lv_aload_n hx hb dL_law_703 rfl (lv_at hl 3 rfl) ?_
  refine lv_iload_n hx hb dL_law_704 rfl (lv_at hl 0 rfl) ?_
  refine lv_iconst (v := (1 : Int32)) hx hb dL_law_705 (by decide) ?_
  refine lv_iadd hx hb dL_law_706 ?_
  refine va_sld hx hb hX hbl hbA hSt.2.2.2.2 (lw_in 1 rfl (by omega) hL) dL_law_707 ?_
  refine lv_aload_n hx hb dL_law_708 rfl (lv_at hl 3 rfl) ?_
  refine lv_iload_n hx hb dL_law_709 rfl (lv_at hl 0 rfl) ?_
  refine lv_iconst (v := (2 : Int32)) hx hb dL_law_710 (by decide) ?_
  refine lv_iadd hx hb dL_law_711 ?_
  refine va_sld hx hb hX hbl hbA hSt.2.2.2.2 (lw_in 2 rfl (by omega) hL) dL_law_712 ?_
  refine lv_aload_n hx hb dL_law_713 rfl (lv_at hl 3 rfl) ?_
  refine lv_iload_n hx hb dL_law_714 rfl (lv_at hl 0 rfl) ?_
  refine lv_iconst (v := (3 : Int32)) hx hb dL_law_715 (by decide) ?_
  refine lv_iadd hx hb dL_law_716 ?_
  refine va_sld hx hb hX hbl hbA hSt.2.2.2.2 (lw_in 3 rfl (by omega) hL) dL_law_717 ?_
  refine lw_xi (va_runV (As := [.int (xs (nI (6 * t) + 1).toNatClampNeg), .int (xs (nI (6 * t) + 2).toNatClampNeg), .int (xs (nI (6 * t) + 3).toNatClampNeg)]) (rest := []) ⟨hx, hb, hml, hown, hts⟩ (CX9_reading l D cI cS cP ax (zA ax 41) n σx σx' r (xs (nI (6 * t) + 1).toNatClampNeg) (xs (nI (6 * t) + 2).toNatClampNeg) (xs (nI (6 * t) + 3).toNatClampNeg) f1) (cwV 3 hts gL_law_X9_reading rfl rfl rfl (by decide +kernel) ⟨Nat.le_of_ble_eq_true rfl, Nat.le_of_ble_eq_true rfl⟩) (z_preV (o := 0) hN hK hSt.1 hSt.2.1 (by decide) (zx_8 rfl) rfl) rfl rfl hl.1 rfl (lv_room (Nat.le_of_ble_eq_true rfl)) dL_law_718 ⟨hcs.1, hcs.2⟩) hA hSt (fun H locs hSt => ?_)
  refine lv_aload_n hx hb dL_law_721 rfl (lv_at hl 1 rfl) ?_
  refine lv_aload_n hx hb dL_law_722 rfl (lv_at hl 3 rfl) ?_
  refine lv_iload_n hx hb dL_law_723 rfl (lv_at hl 0 rfl) ?_
  refine lv_iconst (v := (1 : Int32)) hx hb dL_law_724 (by decide) ?_
  refine lv_iadd hx hb dL_law_725 ?_
  refine va_sld hx hb hX hbl hbA hSt.2.2.2.2 (lw_in 1 rfl (by omega) hL) dL_law_726 ?_
  refine lv_aload_n hx hb dL_law_727 rfl (lv_at hl 3 rfl) ?_
  refine lv_iload_n hx hb dL_law_728 rfl (lv_at hl 0 rfl) ?_
  refine lv_iconst (v := (2 : Int32)) hx hb dL_law_729 (by decide) ?_
  refine lv_iadd hx hb dL_law_730 ?_
  refine va_sld hx hb hX hbl hbA hSt.2.2.2.2 (lw_in 2 rfl (by omega) hL) dL_law_731 ?_
  refine lv_aload_n hx hb dL_law_732 rfl (lv_at hl 3 rfl) ?_
  refine lv_iload_n hx hb dL_law_733 rfl (lv_at hl 0 rfl) ?_
  refine lv_iconst (v := (3 : Int32)) hx hb dL_law_734 (by decide) ?_
  refine lv_iadd hx hb dL_law_735 ?_
  refine va_sld hx hb hX hbl hbA hSt.2.2.2.2 (lw_in 3 rfl (by omega) hL) dL_law_736 ?_
  refine lw_mi (va_runV (As := [.int (xs (nI (6 * t) + 1).toNatClampNeg), .int (xs (nI (6 * t) + 2).toNatClampNeg), .int (xs (nI (6 * t) + 3).toNatClampNeg)]) (rest := [.int r]) ⟨hx, hb, hml, hown, hts⟩ (CX10_reading l D cI cS cP am (zA am 20) n σm σm' r (xs (nI (6 * t) + 1).toNatClampNeg) (xs (nI (6 * t) + 2).toNatClampNeg) (xs (nI (6 * t) + 3).toNatClampNeg) f2) (cwV 3 hts gL_law_X10_reading rfl rfl rfl (by decide +kernel) ⟨Nat.le_of_ble_eq_true rfl, Nat.le_of_ble_eq_true rfl⟩) (z_preV (o := 0) hN hK hSt.2.2.1 hSt.2.2.2.1 (by decide) zm_0 rfl) rfl rfl hl.1 rfl (lv_room (Nat.le_of_ble_eq_true rfl)) dL_law_737 ⟨hcs.1, hcs.2⟩) hA hSt (fun H locs hSt => ?_)
  exact lv_icmp_eq (tgt := 1248) hx hb dL_law_740 (by decide) (fun _ => kk H locs σx' σm' hSt f3) (fun z => absurd rfl z)
set_option maxHeartbeats 8000000 in
set_option maxRecDepth 100000 in
theorem law_c17 {p : Program} {l : Launch} {e : Env} {s : State} {m : MethodId} {below : List Frame} {meth : Method} {c : Code} {b L t : Nat} {xs : Nat → Int32} {D : va_G} {cI cS cP : ClassId} {ax am : Nat → Nat} {H : Heap} {locs : List Loc} {cells slots : Nat} {ls : Array Slot} {σx σm : zMem} {Q : State → Prop} (hC : lw_Ctx p s m c b L xs D cI cS cP ax am) (hL : L ≤ 3072) (ht : 6 * t + 6 ≤ L) (hcs : cells ≤ 600000 ∧ slots ≤ 7302250) (hl : lv_has ls 4 [(3, .int (nI (6 * t))), (2, .ref (am 0)), (1, .ref (ax 0)), (0, .ref b)]) (hSt : lw_St s D cI cS cP ax am H locs σx σm) (hR : zR t σx σm) (kk : ∀ (H : Heap) (locs : List Loc) (σx σm : zMem), lw_St s D cI cS cP ax am H locs σx σm → zR (t + 1) σx σm → W p l e room_1 s m #[Value.ref b] below meth c H locs cells slots Q (F0 m 1248 ls [])) : W p l e room_1 s m #[Value.ref b] below meth c H locs cells slots Q (F0 m 745 ls []) := by
  obtain ⟨hx, hb, hml, hown, hts, hX, hbl, hK, hN, hA⟩ := hC
  have hbA : ¬ (fun q : Nat => s.heap.size ≤ q) b := Nat.not_le.mpr hbl
  obtain ⟨n, hn⟩ : ∃ n : Nat, 6000 < n := ⟨6001, Nat.lt_succ_self _⟩
  obtain ⟨r, σx', σm', f1, f2, f3⟩ := back_e n t (xs (nI (6 * t) + 1).toNatClampNeg) σx σm hR
  have f1 : FX9_back n σx (xs (nI (6 * t) + 1).toNatClampNeg) = some (r, σx') := f1
  have f2 : FX10_back n σm (xs (nI (6 * t) + 1).toNatClampNeg) = some (r, σm') := f2
  refine lv_aload_n hx hb dL_law_745 rfl (lv_at hl 2 rfl) ?_
  refine lv_aload_n hx hb dL_law_746 rfl (lv_at hl 3 rfl) ?_
  refine lv_iload_n hx hb dL_law_747 rfl (lv_at hl 0 rfl) ?_
  refine lv_iconst (v := (1 : Int32)) hx hb dL_law_748 (by decide) ?_
  refine lv_iadd hx hb dL_law_749 ?_
  refine va_sld hx hb hX hbl hbA hSt.2.2.2.2 (lw_in 1 rfl (by omega) hL) dL_law_750 ?_
  refine lw_xi (va_runV (As := [.int (xs (nI (6 * t) + 1).toNatClampNeg)]) (rest := []) ⟨hx, hb, hml, hown, hts⟩ (CX9_back l D cI cS cP ax (zA ax 41) n σx σx' r (xs (nI (6 * t) + 1).toNatClampNeg) f1) (cwV 1 hts gL_law_X9_back rfl rfl rfl (by decide +kernel) ⟨Nat.le_of_ble_eq_true rfl, Nat.le_of_ble_eq_true rfl⟩) (z_preV (o := 0) hN hK hSt.1 hSt.2.1 (by decide) (zx_8 rfl) rfl) rfl rfl hl.1 rfl (lv_room (Nat.le_of_ble_eq_true rfl)) dL_law_751 ⟨hcs.1, hcs.2⟩) hA hSt (fun H locs hSt => ?_)
  refine lv_aload_n hx hb dL_law_754 rfl (lv_at hl 1 rfl) ?_
  refine lv_aload_n hx hb dL_law_755 rfl (lv_at hl 3 rfl) ?_
  refine lv_iload_n hx hb dL_law_756 rfl (lv_at hl 0 rfl) ?_
  refine lv_iconst (v := (1 : Int32)) hx hb dL_law_757 (by decide) ?_
  refine lv_iadd hx hb dL_law_758 ?_
  refine va_sld hx hb hX hbl hbA hSt.2.2.2.2 (lw_in 1 rfl (by omega) hL) dL_law_759 ?_
  refine lw_mi (va_runV (As := [.int (xs (nI (6 * t) + 1).toNatClampNeg)]) (rest := [.int r]) ⟨hx, hb, hml, hown, hts⟩ (CX10_back l D cI cS cP am (zA am 20) n σm σm' r (xs (nI (6 * t) + 1).toNatClampNeg) f2) (cwV 1 hts gL_law_X10_back rfl rfl rfl (by decide +kernel) ⟨Nat.le_of_ble_eq_true rfl, Nat.le_of_ble_eq_true rfl⟩) (z_preV (o := 0) hN hK hSt.2.2.1 hSt.2.2.2.1 (by decide) zm_0 rfl) rfl rfl hl.1 rfl (lv_room (Nat.le_of_ble_eq_true rfl)) dL_law_760 ⟨hcs.1, hcs.2⟩) hA hSt (fun H locs hSt => ?_)
  exact lv_icmp_eq (tgt := 1248) hx hb dL_law_763 (by decide) (fun _ => kk H locs σx' σm' hSt f3) (fun z => absurd rfl z)
set_option maxHeartbeats 8000000 in
set_option maxRecDepth 100000 in
theorem law_c18 {p : Program} {l : Launch} {e : Env} {s : State} {m : MethodId} {below : List Frame} {meth : Method} {c : Code} {b L t : Nat} {xs : Nat → Int32} {D : va_G} {cI cS cP : ClassId} {ax am : Nat → Nat} {H : Heap} {locs : List Loc} {cells slots : Nat} {ls : Array Slot} {σx σm : zMem} {Q : State → Prop} (hC : lw_Ctx p s m c b L xs D cI cS cP ax am) (hL : L ≤ 3072) (ht : 6 * t + 6 ≤ L) (hcs : cells ≤ 600000 ∧ slots ≤ 7302250) (hl : lv_has ls 4 [(3, .int (nI (6 * t))), (2, .ref (am 0)), (1, .ref (ax 0)), (0, .ref b)]) (hSt : lw_St s D cI cS cP ax am H locs σx σm) (hR : zR t σx σm) (kk : ∀ (H : Heap) (locs : List Loc) (σx σm : zMem), lw_St s D cI cS cP ax am H locs σx σm → zR (t + 1) σx σm → W p l e room_1 s m #[Value.ref b] below meth c H locs cells slots Q (F0 m 1248 ls [])) : W p l e room_1 s m #[Value.ref b] below meth c H locs cells slots Q (F0 m 768 ls []) := by
  obtain ⟨hx, hb, hml, hown, hts, hX, hbl, hK, hN, hA⟩ := hC
  have hbA : ¬ (fun q : Nat => s.heap.size ≤ q) b := Nat.not_le.mpr hbl
  obtain ⟨n, hn⟩ : ∃ n : Nat, 6000 < n := ⟨6001, Nat.lt_succ_self _⟩
  obtain ⟨r, σx', σm', f1, f2, f3⟩ := knowings_e n t (by omega) (xs (nI (6 * t) + 1).toNatClampNeg) σx σm hR
  have f1 : FX9_knowings n σx (xs (nI (6 * t) + 1).toNatClampNeg) = some (r, σx') := f1
  have f2 : FX10_knowings n σm (xs (nI (6 * t) + 1).toNatClampNeg) = some (r, σm') := f2
  refine lv_aload_n hx hb dL_law_768 rfl (lv_at hl 2 rfl) ?_
  refine lv_aload_n hx hb dL_law_769 rfl (lv_at hl 3 rfl) ?_
  refine lv_iload_n hx hb dL_law_770 rfl (lv_at hl 0 rfl) ?_
  refine lv_iconst (v := (1 : Int32)) hx hb dL_law_771 (by decide) ?_
  refine lv_iadd hx hb dL_law_772 ?_
  refine va_sld hx hb hX hbl hbA hSt.2.2.2.2 (lw_in 1 rfl (by omega) hL) dL_law_773 ?_
  refine lw_xi (va_runV (As := [.int (xs (nI (6 * t) + 1).toNatClampNeg)]) (rest := []) ⟨hx, hb, hml, hown, hts⟩ (CX9_knowings l D cI cS cP ax (zA ax 41) n σx σx' r (xs (nI (6 * t) + 1).toNatClampNeg) f1) (cwV 1 hts gL_law_X9_knowings rfl rfl rfl (by decide +kernel) ⟨Nat.le_of_ble_eq_true rfl, Nat.le_of_ble_eq_true rfl⟩) (z_preV (o := 0) hN hK hSt.1 hSt.2.1 (by decide) (zx_8 rfl) rfl) rfl rfl hl.1 rfl (lv_room (Nat.le_of_ble_eq_true rfl)) dL_law_774 ⟨hcs.1, hcs.2⟩) hA hSt (fun H locs hSt => ?_)
  refine lv_aload_n hx hb dL_law_777 rfl (lv_at hl 1 rfl) ?_
  refine lv_aload_n hx hb dL_law_778 rfl (lv_at hl 3 rfl) ?_
  refine lv_iload_n hx hb dL_law_779 rfl (lv_at hl 0 rfl) ?_
  refine lv_iconst (v := (1 : Int32)) hx hb dL_law_780 (by decide) ?_
  refine lv_iadd hx hb dL_law_781 ?_
  refine va_sld hx hb hX hbl hbA hSt.2.2.2.2 (lw_in 1 rfl (by omega) hL) dL_law_782 ?_
  refine lw_mi (va_runV (As := [.int (xs (nI (6 * t) + 1).toNatClampNeg)]) (rest := [.int r]) ⟨hx, hb, hml, hown, hts⟩ (CX10_knowings l D cI cS cP am (zA am 20) n σm σm' r (xs (nI (6 * t) + 1).toNatClampNeg) f2) (cwV 1 hts gL_law_X10_knowings rfl rfl rfl (by decide +kernel) ⟨Nat.le_of_ble_eq_true rfl, Nat.le_of_ble_eq_true rfl⟩) (z_preV (o := 0) hN hK hSt.2.2.1 hSt.2.2.2.1 (by decide) zm_0 rfl) rfl rfl hl.1 rfl (lv_room (Nat.le_of_ble_eq_true rfl)) dL_law_783 ⟨hcs.1, hcs.2⟩) hA hSt (fun H locs hSt => ?_)
  exact lv_icmp_eq (tgt := 1248) hx hb dL_law_786 (by decide) (fun _ => kk H locs σx' σm' hSt f3) (fun z => absurd rfl z)
set_option maxHeartbeats 8000000 in
set_option maxRecDepth 100000 in
theorem law_c19 {p : Program} {l : Launch} {e : Env} {s : State} {m : MethodId} {below : List Frame} {meth : Method} {c : Code} {b L t : Nat} {xs : Nat → Int32} {D : va_G} {cI cS cP : ClassId} {ax am : Nat → Nat} {H : Heap} {locs : List Loc} {cells slots : Nat} {ls : Array Slot} {σx σm : zMem} {Q : State → Prop} (hC : lw_Ctx p s m c b L xs D cI cS cP ax am) (hL : L ≤ 3072) (ht : 6 * t + 6 ≤ L) (hcs : cells ≤ 600000 ∧ slots ≤ 7302250) (hl : lv_has ls 4 [(3, .int (nI (6 * t))), (2, .ref (am 0)), (1, .ref (ax 0)), (0, .ref b)]) (hSt : lw_St s D cI cS cP ax am H locs σx σm) (hR : zR t σx σm) (kk : ∀ (H : Heap) (locs : List Loc) (σx σm : zMem), lw_St s D cI cS cP ax am H locs σx σm → zR (t + 1) σx σm → W p l e room_1 s m #[Value.ref b] below meth c H locs cells slots Q (F0 m 1248 ls [])) : W p l e room_1 s m #[Value.ref b] below meth c H locs cells slots Q (F0 m 791 ls []) := by
  obtain ⟨hx, hb, hml, hown, hts, hX, hbl, hK, hN, hA⟩ := hC
  have hbA : ¬ (fun q : Nat => s.heap.size ≤ q) b := Nat.not_le.mpr hbl
  obtain ⟨n, hn⟩ : ∃ n : Nat, 6000 < n := ⟨6001, Nat.lt_succ_self _⟩
  obtain ⟨r, σx', σm', f1, f2, f3⟩ := wits_e n t (by omega) (xs (nI (6 * t) + 1).toNatClampNeg) σx σm hR
  have f1 : FX9_wits n σx (xs (nI (6 * t) + 1).toNatClampNeg) = some (r, σx') := f1
  have f2 : FX10_wits n σm (xs (nI (6 * t) + 1).toNatClampNeg) = some (r, σm') := f2
  refine lv_aload_n hx hb dL_law_791 rfl (lv_at hl 2 rfl) ?_
  refine lv_aload_n hx hb dL_law_792 rfl (lv_at hl 3 rfl) ?_
  refine lv_iload_n hx hb dL_law_793 rfl (lv_at hl 0 rfl) ?_
  refine lv_iconst (v := (1 : Int32)) hx hb dL_law_794 (by decide) ?_
  refine lv_iadd hx hb dL_law_795 ?_
  refine va_sld hx hb hX hbl hbA hSt.2.2.2.2 (lw_in 1 rfl (by omega) hL) dL_law_796 ?_
  refine lw_xi (va_runV (As := [.int (xs (nI (6 * t) + 1).toNatClampNeg)]) (rest := []) ⟨hx, hb, hml, hown, hts⟩ (CX9_wits l D cI cS cP ax (zA ax 41) n σx σx' r (xs (nI (6 * t) + 1).toNatClampNeg) f1) (cwV 1 hts gL_law_X9_wits rfl rfl rfl (by decide +kernel) ⟨Nat.le_of_ble_eq_true rfl, Nat.le_of_ble_eq_true rfl⟩) (z_preV (o := 0) hN hK hSt.1 hSt.2.1 (by decide) (zx_8 rfl) rfl) rfl rfl hl.1 rfl (lv_room (Nat.le_of_ble_eq_true rfl)) dL_law_797 ⟨hcs.1, hcs.2⟩) hA hSt (fun H locs hSt => ?_)
  refine lv_aload_n hx hb dL_law_800 rfl (lv_at hl 1 rfl) ?_
  refine lv_aload_n hx hb dL_law_801 rfl (lv_at hl 3 rfl) ?_
  refine lv_iload_n hx hb dL_law_802 rfl (lv_at hl 0 rfl) ?_
  refine lv_iconst (v := (1 : Int32)) hx hb dL_law_803 (by decide) ?_
  refine lv_iadd hx hb dL_law_804 ?_
  refine va_sld hx hb hX hbl hbA hSt.2.2.2.2 (lw_in 1 rfl (by omega) hL) dL_law_805 ?_
  refine lw_mi (va_runV (As := [.int (xs (nI (6 * t) + 1).toNatClampNeg)]) (rest := [.int r]) ⟨hx, hb, hml, hown, hts⟩ (CX10_wits l D cI cS cP am (zA am 20) n σm σm' r (xs (nI (6 * t) + 1).toNatClampNeg) f2) (cwV 1 hts gL_law_X10_wits rfl rfl rfl (by decide +kernel) ⟨Nat.le_of_ble_eq_true rfl, Nat.le_of_ble_eq_true rfl⟩) (z_preV (o := 0) hN hK hSt.2.2.1 hSt.2.2.2.1 (by decide) zm_0 rfl) rfl rfl hl.1 rfl (lv_room (Nat.le_of_ble_eq_true rfl)) dL_law_806 ⟨hcs.1, hcs.2⟩) hA hSt (fun H locs hSt => ?_)
  exact lv_icmp_eq (tgt := 1248) hx hb dL_law_809 (by decide) (fun _ => kk H locs σx' σm' hSt f3) (fun z => absurd rfl z)
set_option maxHeartbeats 8000000 in
set_option maxRecDepth 100000 in
theorem law_c20 {p : Program} {l : Launch} {e : Env} {s : State} {m : MethodId} {below : List Frame} {meth : Method} {c : Code} {b L t : Nat} {xs : Nat → Int32} {D : va_G} {cI cS cP : ClassId} {ax am : Nat → Nat} {H : Heap} {locs : List Loc} {cells slots : Nat} {ls : Array Slot} {σx σm : zMem} {Q : State → Prop} (hC : lw_Ctx p s m c b L xs D cI cS cP ax am) (hL : L ≤ 3072) (ht : 6 * t + 6 ≤ L) (hcs : cells ≤ 600000 ∧ slots ≤ 7302250) (hl : lv_has ls 4 [(3, .int (nI (6 * t))), (2, .ref (am 0)), (1, .ref (ax 0)), (0, .ref b)]) (hSt : lw_St s D cI cS cP ax am H locs σx σm) (hR : zR t σx σm) (kk : ∀ (H : Heap) (locs : List Loc) (σx σm : zMem), lw_St s D cI cS cP ax am H locs σx σm → zR (t + 1) σx σm → W p l e room_1 s m #[Value.ref b] below meth c H locs cells slots Q (F0 m 1248 ls [])) : W p l e room_1 s m #[Value.ref b] below meth c H locs cells slots Q (F0 m 814 ls []) := by
  obtain ⟨hx, hb, hml, hown, hts, hX, hbl, hK, hN, hA⟩ := hC
  have hbA : ¬ (fun q : Nat => s.heap.size ≤ q) b := Nat.not_le.mpr hbl
  obtain ⟨n, hn⟩ : ∃ n : Nat, 6000 < n := ⟨6001, Nat.lt_succ_self _⟩
  obtain ⟨r, σx', σm', f1, f2, f3⟩ := kinds_e n t (by omega) (xs (nI (6 * t) + 1).toNatClampNeg) σx σm hR
  have f1 : FX9_kinds n σx (xs (nI (6 * t) + 1).toNatClampNeg) = some (r, σx') := f1
  have f2 : FX10_kinds n σm (xs (nI (6 * t) + 1).toNatClampNeg) = some (r, σm') := f2
  refine lv_aload_n hx hb dL_law_814 rfl (lv_at hl 2 rfl) ?_
  refine lv_aload_n hx hb dL_law_815 rfl (lv_at hl 3 rfl) ?_
  refine lv_iload_n hx hb dL_law_816 rfl (lv_at hl 0 rfl) ?_
  refine lv_iconst (v := (1 : Int32)) hx hb dL_law_817 (by decide) ?_
  refine lv_iadd hx hb dL_law_818 ?_
  refine va_sld hx hb hX hbl hbA hSt.2.2.2.2 (lw_in 1 rfl (by omega) hL) dL_law_819 ?_
  refine lw_xi (va_runV (As := [.int (xs (nI (6 * t) + 1).toNatClampNeg)]) (rest := []) ⟨hx, hb, hml, hown, hts⟩ (CX9_kinds l D cI cS cP ax (zA ax 41) n σx σx' r (xs (nI (6 * t) + 1).toNatClampNeg) f1) (cwV 1 hts gL_law_X9_kinds rfl rfl rfl (by decide +kernel) ⟨Nat.le_of_ble_eq_true rfl, Nat.le_of_ble_eq_true rfl⟩) (z_preV (o := 0) hN hK hSt.1 hSt.2.1 (by decide) (zx_8 rfl) rfl) rfl rfl hl.1 rfl (lv_room (Nat.le_of_ble_eq_true rfl)) dL_law_820 ⟨hcs.1, hcs.2⟩) hA hSt (fun H locs hSt => ?_)
  refine lv_aload_n hx hb dL_law_823 rfl (lv_at hl 1 rfl) ?_
  refine lv_aload_n hx hb dL_law_824 rfl (lv_at hl 3 rfl) ?_
  refine lv_iload_n hx hb dL_law_825 rfl (lv_at hl 0 rfl) ?_
  refine lv_iconst (v := (1 : Int32)) hx hb dL_law_826 (by decide) ?_
  refine lv_iadd hx hb dL_law_827 ?_
  refine va_sld hx hb hX hbl hbA hSt.2.2.2.2 (lw_in 1 rfl (by omega) hL) dL_law_828 ?_
  refine lw_mi (va_runV (As := [.int (xs (nI (6 * t) + 1).toNatClampNeg)]) (rest := [.int r]) ⟨hx, hb, hml, hown, hts⟩ (CX10_kinds l D cI cS cP am (zA am 20) n σm σm' r (xs (nI (6 * t) + 1).toNatClampNeg) f2) (cwV 1 hts gL_law_X10_kinds rfl rfl rfl (by decide +kernel) ⟨Nat.le_of_ble_eq_true rfl, Nat.le_of_ble_eq_true rfl⟩) (z_preV (o := 0) hN hK hSt.2.2.1 hSt.2.2.2.1 (by decide) zm_0 rfl) rfl rfl hl.1 rfl (lv_room (Nat.le_of_ble_eq_true rfl)) dL_law_829 ⟨hcs.1, hcs.2⟩) hA hSt (fun H locs hSt => ?_)
  exact lv_icmp_eq (tgt := 1248) hx hb dL_law_832 (by decide) (fun _ => kk H locs σx' σm' hSt f3) (fun z => absurd rfl z)
set_option maxHeartbeats 8000000 in
set_option maxRecDepth 100000 in
theorem law_c21 {p : Program} {l : Launch} {e : Env} {s : State} {m : MethodId} {below : List Frame} {meth : Method} {c : Code} {b L t : Nat} {xs : Nat → Int32} {D : va_G} {cI cS cP : ClassId} {ax am : Nat → Nat} {H : Heap} {locs : List Loc} {cells slots : Nat} {ls : Array Slot} {σx σm : zMem} {Q : State → Prop} (hC : lw_Ctx p s m c b L xs D cI cS cP ax am) (hL : L ≤ 3072) (ht : 6 * t + 6 ≤ L) (hcs : cells ≤ 600000 ∧ slots ≤ 7302250) (hl : lv_has ls 4 [(3, .int (nI (6 * t))), (2, .ref (am 0)), (1, .ref (ax 0)), (0, .ref b)]) (hSt : lw_St s D cI cS cP ax am H locs σx σm) (hR : zR t σx σm) (kk : ∀ (H : Heap) (locs : List Loc) (σx σm : zMem), lw_St s D cI cS cP ax am H locs σx σm → zR (t + 1) σx σm → W p l e room_1 s m #[Value.ref b] below meth c H locs cells slots Q (F0 m 1248 ls [])) : W p l e room_1 s m #[Value.ref b] below meth c H locs cells slots Q (F0 m 837 ls []) := by
  obtain ⟨hx, hb, hml, hown, hts, hX, hbl, hK, hN, hA⟩ := hC
  have hbA : ¬ (fun q : Nat => s.heap.size ≤ q) b := Nat.not_le.mpr hbl
  obtain ⟨n, hn⟩ : ∃ n : Nat, 6000 < n := ⟨6001, Nat.lt_succ_self _⟩
  obtain ⟨r, σx', σm', f1, f2, f3⟩ := worths_e n t (by omega) (xs (nI (6 * t) + 1).toNatClampNeg) σx σm hR
  have f1 : FX9_worths n σx (xs (nI (6 * t) + 1).toNatClampNeg) = some (r, σx') := f1
  have f2 : FX10_worths n σm (xs (nI (6 * t) + 1).toNatClampNeg) = some (r, σm') := f2
  refine lv_aload_n hx hb dL_law_837 rfl (lv_at hl 2 rfl) ?_
  refine lv_aload_n hx hb dL_law_838 rfl (lv_at hl 3 rfl) ?_
  refine lv_iload_n hx hb dL_law_839 rfl (lv_at hl 0 rfl) ?_
  refine lv_iconst (v := (1 : Int32)) hx hb dL_law_840 (by decide) ?_
  refine lv_iadd hx hb dL_law_841 ?_
  refine va_sld hx hb hX hbl hbA hSt.2.2.2.2 (lw_in 1 rfl (by omega) hL) dL_law_842 ?_
  refine lw_xi (va_runV (As := [.int (xs (nI (6 * t) + 1).toNatClampNeg)]) (rest := []) ⟨hx, hb, hml, hown, hts⟩ (CX9_worths l D cI cS cP ax (zA ax 41) n σx σx' r (xs (nI (6 * t) + 1).toNatClampNeg) f1) (cwV 1 hts gL_law_X9_worths rfl rfl rfl (by decide +kernel) ⟨Nat.le_of_ble_eq_true rfl, Nat.le_of_ble_eq_true rfl⟩) (z_preV (o := 0) hN hK hSt.1 hSt.2.1 (by decide) (zx_8 rfl) rfl) rfl rfl hl.1 rfl (lv_room (Nat.le_of_ble_eq_true rfl)) dL_law_843 ⟨hcs.1, hcs.2⟩) hA hSt (fun H locs hSt => ?_)
  refine lv_aload_n hx hb dL_law_846 rfl (lv_at hl 1 rfl) ?_
  refine lv_aload_n hx hb dL_law_847 rfl (lv_at hl 3 rfl) ?_
  refine lv_iload_n hx hb dL_law_848 rfl (lv_at hl 0 rfl) ?_
  refine lv_iconst (v := (1 : Int32)) hx hb dL_law_849 (by decide) ?_
  refine lv_iadd hx hb dL_law_850 ?_
  refine va_sld hx hb hX hbl hbA hSt.2.2.2.2 (lw_in 1 rfl (by omega) hL) dL_law_851 ?_
  refine lw_mi (va_runV (As := [.int (xs (nI (6 * t) + 1).toNatClampNeg)]) (rest := [.int r]) ⟨hx, hb, hml, hown, hts⟩ (CX10_worths l D cI cS cP am (zA am 20) n σm σm' r (xs (nI (6 * t) + 1).toNatClampNeg) f2) (cwV 1 hts gL_law_X10_worths rfl rfl rfl (by decide +kernel) ⟨Nat.le_of_ble_eq_true rfl, Nat.le_of_ble_eq_true rfl⟩) (z_preV (o := 0) hN hK hSt.2.2.1 hSt.2.2.2.1 (by decide) zm_0 rfl) rfl rfl hl.1 rfl (lv_room (Nat.le_of_ble_eq_true rfl)) dL_law_852 ⟨hcs.1, hcs.2⟩) hA hSt (fun H locs hSt => ?_)
  exact lv_icmp_eq (tgt := 1248) hx hb dL_law_855 (by decide) (fun _ => kk H locs σx' σm' hSt f3) (fun z => absurd rfl z)
set_option maxHeartbeats 8000000 in
set_option maxRecDepth 100000 in
theorem law_c22 {p : Program} {l : Launch} {e : Env} {s : State} {m : MethodId} {below : List Frame} {meth : Method} {c : Code} {b L t : Nat} {xs : Nat → Int32} {D : va_G} {cI cS cP : ClassId} {ax am : Nat → Nat} {H : Heap} {locs : List Loc} {cells slots : Nat} {ls : Array Slot} {σx σm : zMem} {Q : State → Prop} (hC : lw_Ctx p s m c b L xs D cI cS cP ax am) (hL : L ≤ 3072) (ht : 6 * t + 6 ≤ L) (hcs : cells ≤ 600000 ∧ slots ≤ 7302250) (hl : lv_has ls 4 [(3, .int (nI (6 * t))), (2, .ref (am 0)), (1, .ref (ax 0)), (0, .ref b)]) (hSt : lw_St s D cI cS cP ax am H locs σx σm) (hR : zR t σx σm) (kk : ∀ (H : Heap) (locs : List Loc) (σx σm : zMem), lw_St s D cI cS cP ax am H locs σx σm → zR (t + 1) σx σm → W p l e room_1 s m #[Value.ref b] below meth c H locs cells slots Q (F0 m 1248 ls [])) : W p l e room_1 s m #[Value.ref b] below meth c H locs cells slots Q (F0 m 860 ls []) := by
  obtain ⟨hx, hb, hml, hown, hts, hX, hbl, hK, hN, hA⟩ := hC
  have hbA : ¬ (fun q : Nat => s.heap.size ≤ q) b := Nat.not_le.mpr hbl
  obtain ⟨n, hn⟩ : ∃ n : Nat, 6000 < n := ⟨6001, Nat.lt_succ_self _⟩
  obtain ⟨r, σx', σm', f1, f2, f3⟩ := odds_e n t (by omega) (xs (nI (6 * t) + 1).toNatClampNeg) (xs (nI (6 * t) + 2).toNatClampNeg) (xs (nI (6 * t) + 3).toNatClampNeg) σx σm hR
  have f1 : FX9_odds n σx (xs (nI (6 * t) + 1).toNatClampNeg) (xs (nI (6 * t) + 2).toNatClampNeg) (xs (nI (6 * t) + 3).toNatClampNeg) = some (r, σx') := f1
  have f2 : FX10_odds n σm (xs (nI (6 * t) + 1).toNatClampNeg) (xs (nI (6 * t) + 2).toNatClampNeg) (xs (nI (6 * t) + 3).toNatClampNeg) = some (r, σm') := f2
  refine lv_aload_n hx hb dL_law_860 rfl (lv_at hl 2 rfl) ?_
  refine lv_aload_n hx hb dL_law_861 rfl (lv_at hl 3 rfl) ?_
  refine lv_iload_n hx hb dL_law_862 rfl (lv_at hl 0 rfl) ?_
  refine lv_iconst (v := (1 : Int32)) hx hb dL_law_863 (by decide) ?_
  refine lv_iadd hx hb dL_law_864 ?_
  refine va_sld hx hb hX hbl hbA hSt.2.2.2.2 (lw_in 1 rfl (by omega) hL) dL_law_865 ?_
  refine lv_aload_n hx hb dL_law_866 rfl (lv_at hl 3 rfl) ?_
  refine lv_iload_n hx hb dL_law_867 rfl (lv_at hl 0 rfl) ?_
  refine lv_iconst (v := (2 : Int32)) hx hb dL_law_868 (by decide) ?_
  refine lv_iadd hx hb dL_law_869 ?_
  refine va_sld hx hb hX hbl hbA hSt.2.2.2.2 (lw_in 2 rfl (by omega) hL) dL_law_870 ?_
  refine lv_aload_n hx hb dL_law_871 rfl (lv_at hl 3 rfl) ?_
  refine lv_iload_n hx hb dL_law_872 rfl (lv_at hl 0 rfl) ?_
  refine lv_iconst (v := (3 : Int32)) hx hb dL_law_873 (by decide) ?_
  refine lv_iadd hx hb dL_law_874 ?_
  refine va_sld hx hb hX hbl hbA hSt.2.2.2.2 (lw_in 3 rfl (by omega) hL) dL_law_875 ?_
  refine lw_xl (va_runV (As := [.int (xs (nI (6 * t) + 1).toNatClampNeg), .int (xs (nI (6 * t) + 2).toNatClampNeg), .int (xs (nI (6 * t) + 3).toNatClampNeg)]) (rest := []) ⟨hx, hb, hml, hown, hts⟩ (CX9_odds l D cI cS cP ax (zA ax 41) n σx σx' r (xs (nI (6 * t) + 1).toNatClampNeg) (xs (nI (6 * t) + 2).toNatClampNeg) (xs (nI (6 * t) + 3).toNatClampNeg) f1) (cwV 3 hts gL_law_X9_odds rfl rfl rfl (by decide +kernel) ⟨Nat.le_of_ble_eq_true rfl, Nat.le_of_ble_eq_true rfl⟩) (z_preV (o := 0) hN hK hSt.1 hSt.2.1 (by decide) (zx_8 rfl) rfl) rfl rfl hl.1 rfl (lv_room (Nat.le_of_ble_eq_true rfl)) dL_law_876 ⟨hcs.1, hcs.2⟩) hA hSt (fun H locs hSt => ?_)
  refine lv_aload_n hx hb dL_law_879 rfl (lv_at hl 1 rfl) ?_
  refine lv_aload_n hx hb dL_law_880 rfl (lv_at hl 3 rfl) ?_
  refine lv_iload_n hx hb dL_law_881 rfl (lv_at hl 0 rfl) ?_
  refine lv_iconst (v := (1 : Int32)) hx hb dL_law_882 (by decide) ?_
  refine lv_iadd hx hb dL_law_883 ?_
  refine va_sld hx hb hX hbl hbA hSt.2.2.2.2 (lw_in 1 rfl (by omega) hL) dL_law_884 ?_
  refine lv_aload_n hx hb dL_law_885 rfl (lv_at hl 3 rfl) ?_
  refine lv_iload_n hx hb dL_law_886 rfl (lv_at hl 0 rfl) ?_
  refine lv_iconst (v := (2 : Int32)) hx hb dL_law_887 (by decide) ?_
  refine lv_iadd hx hb dL_law_888 ?_
  refine va_sld hx hb hX hbl hbA hSt.2.2.2.2 (lw_in 2 rfl (by omega) hL) dL_law_889 ?_
  refine lv_aload_n hx hb dL_law_890 rfl (lv_at hl 3 rfl) ?_
  refine lv_iload_n hx hb dL_law_891 rfl (lv_at hl 0 rfl) ?_
  refine lv_iconst (v := (3 : Int32)) hx hb dL_law_892 (by decide) ?_
  refine lv_iadd hx hb dL_law_893 ?_
  refine va_sld hx hb hX hbl hbA hSt.2.2.2.2 (lw_in 3 rfl (by omega) hL) dL_law_894 ?_
  refine lw_ml (va_runV (As := [.int (xs (nI (6 * t) + 1).toNatClampNeg), .int (xs (nI (6 * t) + 2).toNatClampNeg), .int (xs (nI (6 * t) + 3).toNatClampNeg)]) (rest := [.long r]) ⟨hx, hb, hml, hown, hts⟩ (CX10_odds l D cI cS cP am (zA am 20) n σm σm' r (xs (nI (6 * t) + 1).toNatClampNeg) (xs (nI (6 * t) + 2).toNatClampNeg) (xs (nI (6 * t) + 3).toNatClampNeg) f2) (cwV 3 hts gL_law_X10_odds rfl rfl rfl (by decide +kernel) ⟨Nat.le_of_ble_eq_true rfl, Nat.le_of_ble_eq_true rfl⟩) (z_preV (o := 0) hN hK hSt.2.2.1 hSt.2.2.2.1 (by decide) zm_0 rfl) rfl rfl hl.1 rfl (lv_room (Nat.le_of_ble_eq_true rfl)) dL_law_895 ⟨hcs.1, hcs.2⟩) hA hSt (fun H locs hSt => ?_)
  refine W.lcmp hx hb dL_law_898 ?_
  exact lv_if_eq (tgt := 1248) hx hb dL_law_899 (by decide) (fun _ => kk H locs σx' σm' hSt f3) (fun z => absurd (by simp [lg_cmp]) z)
