/-! ===== the law: its cases ===== -/
set_option maxHeartbeats 8000000 in
set_option maxRecDepth 100000 in
theorem law_c23 {p : Program} {l : Launch} {e : Env} {s : State} {m : MethodId} {below : List Frame} {meth : Method} {c : Code} {b L t : Nat} {xs : Nat → Int32} {D : va_G} {cI cS cP : ClassId} {ax am : Nat → Nat} {H : Heap} {locs : List Loc} {cells slots : Nat} {ls : Array Slot} {σx σm : zMem} {Q : State → Prop} (hC : lw_Ctx p s m c b L xs D cI cS cP ax am) (hL : L ≤ 3072) (ht : 6 * t + 6 ≤ L) (hcs : cells ≤ 600000 ∧ slots ≤ 7302250) (hl : lv_has ls 4 [(3, .int (nI (6 * t))), (2, .ref (am 0)), (1, .ref (ax 0)), (0, .ref b)]) (hSt : lw_St s D cI cS cP ax am H locs σx σm) (hR : zR t σx σm) (kk : ∀ (H : Heap) (locs : List Loc) (σx σm : zMem), lw_St s D cI cS cP ax am H locs σx σm → zR (t + 1) σx σm → W p l e room_1 s m #[Value.ref b] below meth c H locs cells slots Q (F0 m 1248 ls [])) : W p l e room_1 s m #[Value.ref b] below meth c H locs cells slots Q (F0 m 904 ls []) := by
  obtain ⟨hx, hb, hml, hown, hts, hX, hbl, hK, hN, hA⟩ := hC
  have hbA : ¬ (fun q : Nat => s.heap.size ≤ q) b := Nat.not_le.mpr hbl
  obtain ⟨n, hn⟩ : ∃ n : Nat, 6000 < n := ⟨6001, Nat.lt_succ_self _⟩
  obtain ⟨r, σx', σm', f1, f2, f3⟩ := sheet_e n t (by omega) (xs (nI (6 * t) + 1).toNatClampNeg) (xs (nI (6 * t) + 2).toNatClampNeg) (xs (nI (6 * t) + 3).toNatClampNeg) σx σm hR
  have f1 : FX9_sheet n σx (xs (nI (6 * t) + 1).toNatClampNeg) (xs (nI (6 * t) + 2).toNatClampNeg) (xs (nI (6 * t) + 3).toNatClampNeg) = some (r, σx') := f1
  have f2 : FX10_sheet n σm (xs (nI (6 * t) + 1).toNatClampNeg) (xs (nI (6 * t) + 2).toNatClampNeg) (xs (nI (6 * t) + 3).toNatClampNeg) = some (r, σm') := f2
  refine lv_aload_n hx hb dL_law_904 rfl (lv_at hl 2 rfl) ?_
  refine lv_aload_n hx hb dL_law_905 rfl (lv_at hl 3 rfl) ?_
  refine lv_iload_n hx hb dL_law_906 rfl (lv_at hl 0 rfl) ?_
  refine lv_iconst (v := (1 : Int32)) hx hb dL_law_907 (by decide) ?_
  refine lv_iadd hx hb dL_law_908 ?_
  refine va_sld hx hb hX hbl hbA hSt.2.2.2.2 (lw_in 1 rfl (by omega) hL) dL_law_909 ?_
  refine lv_aload_n hx hb dL_law_910 rfl (lv_at hl 3 rfl) ?_
  refine lv_iload_n hx hb dL_law_911 rfl (lv_at hl 0 rfl) ?_
  refine lv_iconst (v := (2 : Int32)) hx hb dL_law_912 (by decide) ?_
  refine lv_iadd hx hb dL_law_913 ?_
  refine va_sld hx hb hX hbl hbA hSt.2.2.2.2 (lw_in 2 rfl (by omega) hL) dL_law_914 ?_
  refine lv_aload_n hx hb dL_law_915 rfl (lv_at hl 3 rfl) ?_
  refine lv_iload_n hx hb dL_law_916 rfl (lv_at hl 0 rfl) ?_
  refine lv_iconst (v := (3 : Int32)) hx hb dL_law_917 (by decide) ?_
  refine lv_iadd hx hb dL_law_918 ?_
  refine va_sld hx hb hX hbl hbA hSt.2.2.2.2 (lw_in 3 rfl (by omega) hL) dL_law_919 ?_
  refine lw_xi (va_runV (As := [.int (xs (nI (6 * t) + 1).toNatClampNeg), .int (xs (nI (6 * t) + 2).toNatClampNeg), .int (xs (nI (6 * t) + 3).toNatClampNeg)]) (rest := []) ⟨hx, hb, hml, hown, hts⟩ (CX9_sheet l D cI cS cP ax (zA ax 41) n σx σx' r (xs (nI (6 * t) + 1).toNatClampNeg) (xs (nI (6 * t) + 2).toNatClampNeg) (xs (nI (6 * t) + 3).toNatClampNeg) f1) (cwV 3 hts gL_law_X9_sheet rfl rfl rfl (by decide +kernel) ⟨Nat.le_of_ble_eq_true rfl, Nat.le_of_ble_eq_true rfl⟩) (z_preV (o := 0) hN hK hSt.1 hSt.2.1 (by decide) (zx_8 rfl) rfl) rfl rfl hl.1 rfl (lv_room (Nat.le_of_ble_eq_true rfl)) dL_law_920 ⟨hcs.1, hcs.2⟩) hA hSt (fun H locs hSt => ?_)
  refine lv_aload_n hx hb dL_law_923 rfl (lv_at hl 1 rfl) ?_
  refine lv_aload_n hx hb dL_law_924 rfl (lv_at hl 3 rfl) ?_
  refine lv_iload_n hx hb dL_law_925 rfl (lv_at hl 0 rfl) ?_
  refine lv_iconst (v := (1 : Int32)) hx hb dL_law_926 (by decide) ?_
  refine lv_iadd hx hb dL_law_927 ?_
  refine va_sld hx hb hX hbl hbA hSt.2.2.2.2 (lw_in 1 rfl (by omega) hL) dL_law_928 ?_
  refine lv_aload_n hx hb dL_law_929 rfl (lv_at hl 3 rfl) ?_
  refine lv_iload_n hx hb dL_law_930 rfl (lv_at hl 0 rfl) ?_
  refine lv_iconst (v := (2 : Int32)) hx hb dL_law_931 (by decide) ?_
  refine lv_iadd hx hb dL_law_932 ?_
  refine va_sld hx hb hX hbl hbA hSt.2.2.2.2 (lw_in 2 rfl (by omega) hL) dL_law_933 ?_
  refine lv_aload_n hx hb dL_law_934 rfl (lv_at hl 3 rfl) ?_
  refine lv_iload_n hx hb dL_law_935 rfl (lv_at hl 0 rfl) ?_
  refine lv_iconst (v := (3 : Int32)) hx hb dL_law_936 (by decide) ?_
  refine lv_iadd hx hb dL_law_937 ?_
  refine va_sld hx hb hX hbl hbA hSt.2.2.2.2 (lw_in 3 rfl (by omega) hL) dL_law_938 ?_
  refine lw_mi (va_runV (As := [.int (xs (nI (6 * t) + 1).toNatClampNeg), .int (xs (nI (6 * t) + 2).toNatClampNeg), .int (xs (nI (6 * t) + 3).toNatClampNeg)]) (rest := [.int r]) ⟨hx, hb, hml, hown, hts⟩ (CX10_sheet l D cI cS cP am (zA am 20) n σm σm' r (xs (nI (6 * t) + 1).toNatClampNeg) (xs (nI (6 * t) + 2).toNatClampNeg) (xs (nI (6 * t) + 3).toNatClampNeg) f2) (cwV 3 hts gL_law_X10_sheet rfl rfl rfl (by decide +kernel) ⟨Nat.le_of_ble_eq_true rfl, Nat.le_of_ble_eq_true rfl⟩) (z_preV (o := 0) hN hK hSt.2.2.1 hSt.2.2.2.1 (by decide) zm_0 rfl) rfl rfl hl.1 rfl (lv_room (Nat.le_of_ble_eq_true rfl)) dL_law_939 ⟨hcs.1, hcs.2⟩) hA hSt (fun H locs hSt => ?_)
  exact lv_icmp_eq (tgt := 1248) hx hb dL_law_942 (by decide) (fun _ => kk H locs σx' σm' hSt f3) (fun z => absurd rfl z)
set_option maxHeartbeats 8000000 in
set_option maxRecDepth 100000 in
theorem law_c24 {p : Program} {l : Launch} {e : Env} {s : State} {m : MethodId} {below : List Frame} {meth : Method} {c : Code} {b L t : Nat} {xs : Nat → Int32} {D : va_G} {cI cS cP : ClassId} {ax am : Nat → Nat} {H : Heap} {locs : List Loc} {cells slots : Nat} {ls : Array Slot} {σx σm : zMem} {Q : State → Prop} (hC : lw_Ctx p s m c b L xs D cI cS cP ax am) (hL : L ≤ 3072) (ht : 6 * t + 6 ≤ L) (hcs : cells ≤ 600000 ∧ slots ≤ 7302250) (hl : lv_has ls 4 [(3, .int (nI (6 * t))), (2, .ref (am 0)), (1, .ref (ax 0)), (0, .ref b)]) (hSt : lw_St s D cI cS cP ax am H locs σx σm) (hR : zR t σx σm) (kk : ∀ (H : Heap) (locs : List Loc) (σx σm : zMem), lw_St s D cI cS cP ax am H locs σx σm → zR (t + 1) σx σm → W p l e room_1 s m #[Value.ref b] below meth c H locs cells slots Q (F0 m 1248 ls [])) : W p l e room_1 s m #[Value.ref b] below meth c H locs cells slots Q (F0 m 947 ls []) := by
  obtain ⟨hx, hb, hml, hown, hts, hX, hbl, hK, hN, hA⟩ := hC
  have hbA : ¬ (fun q : Nat => s.heap.size ≤ q) b := Nat.not_le.mpr hbl
  obtain ⟨n, hn⟩ : ∃ n : Nat, 6000 < n := ⟨6001, Nat.lt_succ_self _⟩
  obtain ⟨r, σx', σm', f1, f2, f3⟩ := lose_e n t (xs (nI (6 * t) + 1).toNatClampNeg) σx σm hR
  have f1 : FX9_lose n σx (xs (nI (6 * t) + 1).toNatClampNeg) = some (r, σx') := f1
  have f2 : FX10_lose n σm (xs (nI (6 * t) + 1).toNatClampNeg) = some (r, σm') := f2
  refine lv_aload_n hx hb dL_law_947 rfl (lv_at hl 2 rfl) ?_
  refine lv_aload_n hx hb dL_law_948 rfl (lv_at hl 3 rfl) ?_
  refine lv_iload_n hx hb dL_law_949 rfl (lv_at hl 0 rfl) ?_
  refine lv_iconst (v := (1 : Int32)) hx hb dL_law_950 (by decide) ?_
  refine lv_iadd hx hb dL_law_951 ?_
  refine va_sld hx hb hX hbl hbA hSt.2.2.2.2 (lw_in 1 rfl (by omega) hL) dL_law_952 ?_
  refine lw_xi (va_runV (As := [.int (xs (nI (6 * t) + 1).toNatClampNeg)]) (rest := []) ⟨hx, hb, hml, hown, hts⟩ (CX9_lose l D cI cS cP ax (zA ax 41) n σx σx' r (xs (nI (6 * t) + 1).toNatClampNeg) f1) (cwV 1 hts gL_law_X9_lose rfl rfl rfl (by decide +kernel) ⟨Nat.le_of_ble_eq_true rfl, Nat.le_of_ble_eq_true rfl⟩) (z_preV (o := 0) hN hK hSt.1 hSt.2.1 (by decide) (zx_8 rfl) rfl) rfl rfl hl.1 rfl (lv_room (Nat.le_of_ble_eq_true rfl)) dL_law_953 ⟨hcs.1, hcs.2⟩) hA hSt (fun H locs hSt => ?_)
  refine lv_aload_n hx hb dL_law_956 rfl (lv_at hl 1 rfl) ?_
  refine lv_aload_n hx hb dL_law_957 rfl (lv_at hl 3 rfl) ?_
  refine lv_iload_n hx hb dL_law_958 rfl (lv_at hl 0 rfl) ?_
  refine lv_iconst (v := (1 : Int32)) hx hb dL_law_959 (by decide) ?_
  refine lv_iadd hx hb dL_law_960 ?_
  refine va_sld hx hb hX hbl hbA hSt.2.2.2.2 (lw_in 1 rfl (by omega) hL) dL_law_961 ?_
  refine lw_mi (va_runV (As := [.int (xs (nI (6 * t) + 1).toNatClampNeg)]) (rest := [.int r]) ⟨hx, hb, hml, hown, hts⟩ (CX10_lose l D cI cS cP am (zA am 20) n σm σm' r (xs (nI (6 * t) + 1).toNatClampNeg) f2) (cwV 1 hts gL_law_X10_lose rfl rfl rfl (by decide +kernel) ⟨Nat.le_of_ble_eq_true rfl, Nat.le_of_ble_eq_true rfl⟩) (z_preV (o := 0) hN hK hSt.2.2.1 hSt.2.2.2.1 (by decide) zm_0 rfl) rfl rfl hl.1 rfl (lv_room (Nat.le_of_ble_eq_true rfl)) dL_law_962 ⟨hcs.1, hcs.2⟩) hA hSt (fun H locs hSt => ?_)
  exact lv_icmp_eq (tgt := 1248) hx hb dL_law_965 (by decide) (fun _ => kk H locs σx' σm' hSt f3) (fun z => absurd rfl z)
set_option maxHeartbeats 8000000 in
set_option maxRecDepth 100000 in
theorem law_c25 {p : Program} {l : Launch} {e : Env} {s : State} {m : MethodId} {below : List Frame} {meth : Method} {c : Code} {b L t : Nat} {xs : Nat → Int32} {D : va_G} {cI cS cP : ClassId} {ax am : Nat → Nat} {H : Heap} {locs : List Loc} {cells slots : Nat} {ls : Array Slot} {σx σm : zMem} {Q : State → Prop} (hC : lw_Ctx p s m c b L xs D cI cS cP ax am) (hL : L ≤ 3072) (ht : 6 * t + 6 ≤ L) (hcs : cells ≤ 600000 ∧ slots ≤ 7302250) (hl : lv_has ls 4 [(3, .int (nI (6 * t))), (2, .ref (am 0)), (1, .ref (ax 0)), (0, .ref b)]) (hSt : lw_St s D cI cS cP ax am H locs σx σm) (hR : zR t σx σm) (kk : ∀ (H : Heap) (locs : List Loc) (σx σm : zMem), lw_St s D cI cS cP ax am H locs σx σm → zR (t + 1) σx σm → W p l e room_1 s m #[Value.ref b] below meth c H locs cells slots Q (F0 m 1248 ls [])) : W p l e room_1 s m #[Value.ref b] below meth c H locs cells slots Q (F0 m 970 ls []) := by
  obtain ⟨hx, hb, hml, hown, hts, hX, hbl, hK, hN, hA⟩ := hC
  have hbA : ¬ (fun q : Nat => s.heap.size ≤ q) b := Nat.not_le.mpr hbl
  obtain ⟨n, hn⟩ : ∃ n : Nat, 6000 < n := ⟨6001, Nat.lt_succ_self _⟩
  obtain ⟨r, σx', σm', f1, f2, f3⟩ := put_e n t (xs (nI (6 * t) + 1).toNatClampNeg) (xs (nI (6 * t) + 2).toNatClampNeg) (xs (nI (6 * t) + 3).toNatClampNeg) σx σm hR
  have f1 : FX9_put n σx (xs (nI (6 * t) + 1).toNatClampNeg) (xs (nI (6 * t) + 2).toNatClampNeg) (xs (nI (6 * t) + 3).toNatClampNeg) = some (r, σx') := f1
  have f2 : FX10_put n σm (xs (nI (6 * t) + 1).toNatClampNeg) (xs (nI (6 * t) + 2).toNatClampNeg) (xs (nI (6 * t) + 3).toNatClampNeg) = some (r, σm') := f2
  refine lv_aload_n hx hb dL_law_970 rfl (lv_at hl 2 rfl) ?_
  refine lv_aload_n hx hb dL_law_971 rfl (lv_at hl 3 rfl) ?_
  refine lv_iload_n hx hb dL_law_972 rfl (lv_at hl 0 rfl) ?_
  refine lv_iconst (v := (1 : Int32)) hx hb dL_law_973 (by decide) ?_
  refine lv_iadd hx hb dL_law_974 ?_
  refine va_sld hx hb hX hbl hbA hSt.2.2.2.2 (lw_in 1 rfl (by omega) hL) dL_law_975 ?_
  refine lv_aload_n hx hb dL_law_976 rfl (lv_at hl 3 rfl) ?_
  refine lv_iload_n hx hb dL_law_977 rfl (lv_at hl 0 rfl) ?_
  refine lv_iconst (v := (2 : Int32)) hx hb dL_law_978 (by decide) ?_
  refine lv_iadd hx hb dL_law_979 ?_
  refine va_sld hx hb hX hbl hbA hSt.2.2.2.2 (lw_in 2 rfl (by omega) hL) dL_law_980 ?_
  refine lv_aload_n hx hb dL_law_981 rfl (lv_at hl 3 rfl) ?_
  refine lv_iload_n hx hb dL_law_982 rfl (lv_at hl 0 rfl) ?_
  refine lv_iconst (v := (3 : Int32)) hx hb dL_law_983 (by decide) ?_
  refine lv_iadd hx hb dL_law_984 ?_
  refine va_sld hx hb hX hbl hbA hSt.2.2.2.2 (lw_in 3 rfl (by omega) hL) dL_law_985 ?_
  refine lw_xi (va_runV (As := [.int (xs (nI (6 * t) + 1).toNatClampNeg), .int (xs (nI (6 * t) + 2).toNatClampNeg), .int (xs (nI (6 * t) + 3).toNatClampNeg)]) (rest := []) ⟨hx, hb, hml, hown, hts⟩ (CX9_put l D cI cS cP ax (zA ax 41) n σx σx' r (xs (nI (6 * t) + 1).toNatClampNeg) (xs (nI (6 * t) + 2).toNatClampNeg) (xs (nI (6 * t) + 3).toNatClampNeg) f1) (cwV 3 hts gL_law_X9_put rfl rfl rfl (by decide +kernel) ⟨Nat.le_of_ble_eq_true rfl, Nat.le_of_ble_eq_true rfl⟩) (z_preV (o := 0) hN hK hSt.1 hSt.2.1 (by decide) (zx_8 rfl) rfl) rfl rfl hl.1 rfl (lv_room (Nat.le_of_ble_eq_true rfl)) dL_law_986 ⟨hcs.1, hcs.2⟩) hA hSt (fun H locs hSt => ?_)
  refine lv_aload_n hx hb dL_law_989 rfl (lv_at hl 1 rfl) ?_
  refine lv_aload_n hx hb dL_law_990 rfl (lv_at hl 3 rfl) ?_
  refine lv_iload_n hx hb dL_law_991 rfl (lv_at hl 0 rfl) ?_
  refine lv_iconst (v := (1 : Int32)) hx hb dL_law_992 (by decide) ?_
  refine lv_iadd hx hb dL_law_993 ?_
  refine va_sld hx hb hX hbl hbA hSt.2.2.2.2 (lw_in 1 rfl (by omega) hL) dL_law_994 ?_
  refine lv_aload_n hx hb dL_law_995 rfl (lv_at hl 3 rfl) ?_
  refine lv_iload_n hx hb dL_law_996 rfl (lv_at hl 0 rfl) ?_
  refine lv_iconst (v := (2 : Int32)) hx hb dL_law_997 (by decide) ?_
  refine lv_iadd hx hb dL_law_998 ?_
  refine va_sld hx hb hX hbl hbA hSt.2.2.2.2 (lw_in 2 rfl (by omega) hL) dL_law_999 ?_
  refine lv_aload_n hx hb dL_law_1000 rfl (lv_at hl 3 rfl) ?_
  refine lv_iload_n hx hb dL_law_1001 rfl (lv_at hl 0 rfl) ?_
  refine lv_iconst (v := (3 : Int32)) hx hb dL_law_1002 (by decide) ?_
  refine lv_iadd hx hb dL_law_1003 ?_
  refine va_sld hx hb hX hbl hbA hSt.2.2.2.2 (lw_in 3 rfl (by omega) hL) dL_law_1004 ?_
  refine lw_mi (va_runV (As := [.int (xs (nI (6 * t) + 1).toNatClampNeg), .int (xs (nI (6 * t) + 2).toNatClampNeg), .int (xs (nI (6 * t) + 3).toNatClampNeg)]) (rest := [.int r]) ⟨hx, hb, hml, hown, hts⟩ (CX10_put l D cI cS cP am (zA am 20) n σm σm' r (xs (nI (6 * t) + 1).toNatClampNeg) (xs (nI (6 * t) + 2).toNatClampNeg) (xs (nI (6 * t) + 3).toNatClampNeg) f2) (cwV 3 hts gL_law_X10_put rfl rfl rfl (by decide +kernel) ⟨Nat.le_of_ble_eq_true rfl, Nat.le_of_ble_eq_true rfl⟩) (z_preV (o := 0) hN hK hSt.2.2.1 hSt.2.2.2.1 (by decide) zm_0 rfl) rfl rfl hl.1 rfl (lv_room (Nat.le_of_ble_eq_true rfl)) dL_law_1005 ⟨hcs.1, hcs.2⟩) hA hSt (fun H locs hSt => ?_)
  exact lv_icmp_eq (tgt := 1248) hx hb dL_law_1008 (by decide) (fun _ => kk H locs σx' σm' hSt f3) (fun z => absurd rfl z)
set_option maxHeartbeats 8000000 in
set_option maxRecDepth 100000 in
theorem law_c26 {p : Program} {l : Launch} {e : Env} {s : State} {m : MethodId} {below : List Frame} {meth : Method} {c : Code} {b L t : Nat} {xs : Nat → Int32} {D : va_G} {cI cS cP : ClassId} {ax am : Nat → Nat} {H : Heap} {locs : List Loc} {cells slots : Nat} {ls : Array Slot} {σx σm : zMem} {Q : State → Prop} (hC : lw_Ctx p s m c b L xs D cI cS cP ax am) (hL : L ≤ 3072) (ht : 6 * t + 6 ≤ L) (hcs : cells ≤ 600000 ∧ slots ≤ 7302250) (hl : lv_has ls 4 [(3, .int (nI (6 * t))), (2, .ref (am 0)), (1, .ref (ax 0)), (0, .ref b)]) (hSt : lw_St s D cI cS cP ax am H locs σx σm) (hR : zR t σx σm) (kk : ∀ (H : Heap) (locs : List Loc) (σx σm : zMem), lw_St s D cI cS cP ax am H locs σx σm → zR (t + 1) σx σm → W p l e room_1 s m #[Value.ref b] below meth c H locs cells slots Q (F0 m 1248 ls [])) : W p l e room_1 s m #[Value.ref b] below meth c H locs cells slots Q (F0 m 1013 ls []) := by
  obtain ⟨hx, hb, hml, hown, hts, hX, hbl, hK, hN, hA⟩ := hC
  have hbA : ¬ (fun q : Nat => s.heap.size ≤ q) b := Nat.not_le.mpr hbl
  obtain ⟨n, hn⟩ : ∃ n : Nat, 6000 < n := ⟨6001, Nat.lt_succ_self _⟩
  obtain ⟨r, σx', σm', f1, f2, f3⟩ := cell_e n t (xs (nI (6 * t) + 1).toNatClampNeg) (xs (nI (6 * t) + 2).toNatClampNeg) (xs (nI (6 * t) + 3).toNatClampNeg) σx σm hR
  have f1 : FX9_cell n σx (xs (nI (6 * t) + 1).toNatClampNeg) (xs (nI (6 * t) + 2).toNatClampNeg) (xs (nI (6 * t) + 3).toNatClampNeg) = some (r, σx') := f1
  have f2 : FX10_cell n σm (xs (nI (6 * t) + 1).toNatClampNeg) (xs (nI (6 * t) + 2).toNatClampNeg) (xs (nI (6 * t) + 3).toNatClampNeg) = some (r, σm') := f2
  refine lv_aload_n hx hb dL_law_1013 rfl (lv_at hl 2 rfl) ?_
  refine lv_aload_n hx hb dL_law_1014 rfl (lv_at hl 3 rfl) ?_
  refine lv_iload_n hx hb dL_law_1015 rfl (lv_at hl 0 rfl) ?_
  refine lv_iconst (v := (1 : Int32)) hx hb dL_law_1016 (by decide) ?_
  refine lv_iadd hx hb dL_law_1017 ?_
  refine va_sld hx hb hX hbl hbA hSt.2.2.2.2 (lw_in 1 rfl (by omega) hL) dL_law_1018 ?_
  refine lv_aload_n hx hb dL_law_1019 rfl (lv_at hl 3 rfl) ?_
  refine lv_iload_n hx hb dL_law_1020 rfl (lv_at hl 0 rfl) ?_
  refine lv_iconst (v := (2 : Int32)) hx hb dL_law_1021 (by decide) ?_
  refine lv_iadd hx hb dL_law_1022 ?_
  refine va_sld hx hb hX hbl hbA hSt.2.2.2.2 (lw_in 2 rfl (by omega) hL) dL_law_1023 ?_
  refine lv_aload_n hx hb dL_law_1024 rfl (lv_at hl 3 rfl) ?_
  refine lv_iload_n hx hb dL_law_1025 rfl (lv_at hl 0 rfl) ?_
  refine lv_iconst (v := (3 : Int32)) hx hb dL_law_1026 (by decide) ?_
  refine lv_iadd hx hb dL_law_1027 ?_
  refine va_sld hx hb hX hbl hbA hSt.2.2.2.2 (lw_in 3 rfl (by omega) hL) dL_law_1028 ?_
  refine lw_xl (va_runV (As := [.int (xs (nI (6 * t) + 1).toNatClampNeg), .int (xs (nI (6 * t) + 2).toNatClampNeg), .int (xs (nI (6 * t) + 3).toNatClampNeg)]) (rest := []) ⟨hx, hb, hml, hown, hts⟩ (CX9_cell l D cI cS cP ax (zA ax 41) n σx σx' r (xs (nI (6 * t) + 1).toNatClampNeg) (xs (nI (6 * t) + 2).toNatClampNeg) (xs (nI (6 * t) + 3).toNatClampNeg) f1) (cwV 3 hts gL_law_X9_cell rfl rfl rfl (by decide +kernel) ⟨Nat.le_of_ble_eq_true rfl, Nat.le_of_ble_eq_true rfl⟩) (z_preV (o := 0) hN hK hSt.1 hSt.2.1 (by decide) (zx_8 rfl) rfl) rfl rfl hl.1 rfl (lv_room (Nat.le_of_ble_eq_true rfl)) dL_law_1029 ⟨hcs.1, hcs.2⟩) hA hSt (fun H locs hSt => ?_)
  refine lv_aload_n hx hb dL_law_1032 rfl (lv_at hl 1 rfl) ?_
  refine lv_aload_n hx hb dL_law_1033 rfl (lv_at hl 3 rfl) ?_
  refine lv_iload_n hx hb dL_law_1034 rfl (lv_at hl 0 rfl) ?_
  refine lv_iconst (v := (1 : Int32)) hx hb dL_law_1035 (by decide) ?_
  refine lv_iadd hx hb dL_law_1036 ?_
  refine va_sld hx hb hX hbl hbA hSt.2.2.2.2 (lw_in 1 rfl (by omega) hL) dL_law_1037 ?_
  refine lv_aload_n hx hb dL_law_1038 rfl (lv_at hl 3 rfl) ?_
  refine lv_iload_n hx hb dL_law_1039 rfl (lv_at hl 0 rfl) ?_
  refine lv_iconst (v := (2 : Int32)) hx hb dL_law_1040 (by decide) ?_
  refine lv_iadd hx hb dL_law_1041 ?_
  refine va_sld hx hb hX hbl hbA hSt.2.2.2.2 (lw_in 2 rfl (by omega) hL) dL_law_1042 ?_
  refine lv_aload_n hx hb dL_law_1043 rfl (lv_at hl 3 rfl) ?_
  refine lv_iload_n hx hb dL_law_1044 rfl (lv_at hl 0 rfl) ?_
  refine lv_iconst (v := (3 : Int32)) hx hb dL_law_1045 (by decide) ?_
  refine lv_iadd hx hb dL_law_1046 ?_
  refine va_sld hx hb hX hbl hbA hSt.2.2.2.2 (lw_in 3 rfl (by omega) hL) dL_law_1047 ?_
  refine lw_ml (va_runV (As := [.int (xs (nI (6 * t) + 1).toNatClampNeg), .int (xs (nI (6 * t) + 2).toNatClampNeg), .int (xs (nI (6 * t) + 3).toNatClampNeg)]) (rest := [.long r]) ⟨hx, hb, hml, hown, hts⟩ (CX10_cell l D cI cS cP am (zA am 20) n σm σm' r (xs (nI (6 * t) + 1).toNatClampNeg) (xs (nI (6 * t) + 2).toNatClampNeg) (xs (nI (6 * t) + 3).toNatClampNeg) f2) (cwV 3 hts gL_law_X10_cell rfl rfl rfl (by decide +kernel) ⟨Nat.le_of_ble_eq_true rfl, Nat.le_of_ble_eq_true rfl⟩) (z_preV (o := 0) hN hK hSt.2.2.1 hSt.2.2.2.1 (by decide) zm_0 rfl) rfl rfl hl.1 rfl (lv_room (Nat.le_of_ble_eq_true rfl)) dL_law_1048 ⟨hcs.1, hcs.2⟩) hA hSt (fun H locs hSt => ?_)
  refine W.lcmp hx hb dL_law_1051 ?_
  exact lv_if_eq (tgt := 1248) hx hb dL_law_1052 (by decide) (fun _ => kk H locs σx' σm' hSt f3) (fun z => absurd (by simp [lg_cmp]) z)
set_option maxHeartbeats 8000000 in
set_option maxRecDepth 100000 in
theorem law_c27 {p : Program} {l : Launch} {e : Env} {s : State} {m : MethodId} {below : List Frame} {meth : Method} {c : Code} {b L t : Nat} {xs : Nat → Int32} {D : va_G} {cI cS cP : ClassId} {ax am : Nat → Nat} {H : Heap} {locs : List Loc} {cells slots : Nat} {ls : Array Slot} {σx σm : zMem} {Q : State → Prop} (hC : lw_Ctx p s m c b L xs D cI cS cP ax am) (hL : L ≤ 3072) (ht : 6 * t + 6 ≤ L) (hcs : cells ≤ 600000 ∧ slots ≤ 7302250) (hl : lv_has ls 4 [(3, .int (nI (6 * t))), (2, .ref (am 0)), (1, .ref (ax 0)), (0, .ref b)]) (hSt : lw_St s D cI cS cP ax am H locs σx σm) (hR : zR t σx σm) (kk : ∀ (H : Heap) (locs : List Loc) (σx σm : zMem), lw_St s D cI cS cP ax am H locs σx σm → zR (t + 1) σx σm → W p l e room_1 s m #[Value.ref b] below meth c H locs cells slots Q (F0 m 1248 ls [])) : W p l e room_1 s m #[Value.ref b] below meth c H locs cells slots Q (F0 m 1057 ls []) := by
  obtain ⟨hx, hb, hml, hown, hts, hX, hbl, hK, hN, hA⟩ := hC
  have hbA : ¬ (fun q : Nat => s.heap.size ≤ q) b := Nat.not_le.mpr hbl
  obtain ⟨n, hn⟩ : ∃ n : Nat, 6000 < n := ⟨6001, Nat.lt_succ_self _⟩
  obtain ⟨r, σx', σm', f1, f2, f3⟩ := copy_e n t (by omega) (xs (nI (6 * t) + 1).toNatClampNeg) (xs (nI (6 * t) + 2).toNatClampNeg) (xs (nI (6 * t) + 3).toNatClampNeg) (xs (nI (6 * t) + 4).toNatClampNeg) (xs (nI (6 * t) + 5).toNatClampNeg) σx σm hR
  have f1 : FX9_copy n σx (xs (nI (6 * t) + 1).toNatClampNeg) (xs (nI (6 * t) + 2).toNatClampNeg) (xs (nI (6 * t) + 3).toNatClampNeg) (xs (nI (6 * t) + 4).toNatClampNeg) (xs (nI (6 * t) + 5).toNatClampNeg) = some (r, σx') := f1
  have f2 : FX10_copy n σm (xs (nI (6 * t) + 1).toNatClampNeg) (xs (nI (6 * t) + 2).toNatClampNeg) (xs (nI (6 * t) + 3).toNatClampNeg) (xs (nI (6 * t) + 4).toNatClampNeg) (xs (nI (6 * t) + 5).toNatClampNeg) = some (r, σm') := f2
  refine lv_aload_n hx hb dL_law_1057 rfl (lv_at hl 2 rfl) ?_
  refine lv_aload_n hx hb dL_law_1058 rfl (lv_at hl 3 rfl) ?_
  refine lv_iload_n hx hb dL_law_1059 rfl (lv_at hl 0 rfl) ?_
  refine lv_iconst (v := (1 : Int32)) hx hb dL_law_1060 (by decide) ?_
  refine lv_iadd hx hb dL_law_1061 ?_
  refine va_sld hx hb hX hbl hbA hSt.2.2.2.2 (lw_in 1 rfl (by omega) hL) dL_law_1062 ?_
  refine lv_aload_n hx hb dL_law_1063 rfl (lv_at hl 3 rfl) ?_
  refine lv_iload_n hx hb dL_law_1064 rfl (lv_at hl 0 rfl) ?_
  refine lv_iconst (v := (2 : Int32)) hx hb dL_law_1065 (by decide) ?_
  refine lv_iadd hx hb dL_law_1066 ?_
  refine va_sld hx hb hX hbl hbA hSt.2.2.2.2 (lw_in 2 rfl (by omega) hL) dL_law_1067 ?_
  refine lv_aload_n hx hb dL_law_1068 rfl (lv_at hl 3 rfl) ?_
  refine lv_iload_n hx hb dL_law_1069 rfl (lv_at hl 0 rfl) ?_
  refine lv_iconst (v := (3 : Int32)) hx hb dL_law_1070 (by decide) ?_
  refine lv_iadd hx hb dL_law_1071 ?_
  refine va_sld hx hb hX hbl hbA hSt.2.2.2.2 (lw_in 3 rfl (by omega) hL) dL_law_1072 ?_
  refine lv_aload_n hx hb dL_law_1073 rfl (lv_at hl 3 rfl) ?_
  refine lv_iload_n hx hb dL_law_1074 rfl (lv_at hl 0 rfl) ?_
  refine lv_iconst (v := (4 : Int32)) hx hb dL_law_1075 (by decide) ?_
  refine lv_iadd hx hb dL_law_1076 ?_
  refine va_sld hx hb hX hbl hbA hSt.2.2.2.2 (lw_in 4 rfl (by omega) hL) dL_law_1077 ?_
  refine lv_aload_n hx hb dL_law_1078 rfl (lv_at hl 3 rfl) ?_
  refine lv_iload_n hx hb dL_law_1079 rfl (lv_at hl 0 rfl) ?_
  refine lv_iconst (v := (5 : Int32)) hx hb dL_law_1080 (by decide) ?_
  refine lv_iadd hx hb dL_law_1081 ?_
  refine va_sld hx hb hX hbl hbA hSt.2.2.2.2 (lw_in 5 rfl (by omega) hL) dL_law_1082 ?_
  refine lw_xi (va_runV (As := [.int (xs (nI (6 * t) + 1).toNatClampNeg), .int (xs (nI (6 * t) + 2).toNatClampNeg), .int (xs (nI (6 * t) + 3).toNatClampNeg), .int (xs (nI (6 * t) + 4).toNatClampNeg), .int (xs (nI (6 * t) + 5).toNatClampNeg)]) (rest := []) ⟨hx, hb, hml, hown, hts⟩ (CX9_copy l D cI cS cP ax (zA ax 41) n σx σx' r (xs (nI (6 * t) + 1).toNatClampNeg) (xs (nI (6 * t) + 2).toNatClampNeg) (xs (nI (6 * t) + 3).toNatClampNeg) (xs (nI (6 * t) + 4).toNatClampNeg) (xs (nI (6 * t) + 5).toNatClampNeg) f1) (cwV 5 hts gL_law_X9_copy rfl rfl rfl (by decide +kernel) ⟨Nat.le_of_ble_eq_true rfl, Nat.le_of_ble_eq_true rfl⟩) (z_preV (o := 0) hN hK hSt.1 hSt.2.1 (by decide) (zx_8 rfl) rfl) rfl rfl hl.1 rfl (lv_room (Nat.le_of_ble_eq_true rfl)) dL_law_1083 ⟨hcs.1, hcs.2⟩) hA hSt (fun H locs hSt => ?_)
  refine lv_aload_n hx hb dL_law_1086 rfl (lv_at hl 1 rfl) ?_
  refine lv_aload_n hx hb dL_law_1087 rfl (lv_at hl 3 rfl) ?_
  refine lv_iload_n hx hb dL_law_1088 rfl (lv_at hl 0 rfl) ?_
  refine lv_iconst (v := (1 : Int32)) hx hb dL_law_1089 (by decide) ?_
  refine lv_iadd hx hb dL_law_1090 ?_
  refine va_sld hx hb hX hbl hbA hSt.2.2.2.2 (lw_in 1 rfl (by omega) hL) dL_law_1091 ?_
  refine lv_aload_n hx hb dL_law_1092 rfl (lv_at hl 3 rfl) ?_
  refine lv_iload_n hx hb dL_law_1093 rfl (lv_at hl 0 rfl) ?_
  refine lv_iconst (v := (2 : Int32)) hx hb dL_law_1094 (by decide) ?_
  refine lv_iadd hx hb dL_law_1095 ?_
  refine va_sld hx hb hX hbl hbA hSt.2.2.2.2 (lw_in 2 rfl (by omega) hL) dL_law_1096 ?_
  refine lv_aload_n hx hb dL_law_1097 rfl (lv_at hl 3 rfl) ?_
  refine lv_iload_n hx hb dL_law_1098 rfl (lv_at hl 0 rfl) ?_
  refine lv_iconst (v := (3 : Int32)) hx hb dL_law_1099 (by decide) ?_
  refine lv_iadd hx hb dL_law_1100 ?_
  refine va_sld hx hb hX hbl hbA hSt.2.2.2.2 (lw_in 3 rfl (by omega) hL) dL_law_1101 ?_
  refine lv_aload_n hx hb dL_law_1102 rfl (lv_at hl 3 rfl) ?_
  refine lv_iload_n hx hb dL_law_1103 rfl (lv_at hl 0 rfl) ?_
  refine lv_iconst (v := (4 : Int32)) hx hb dL_law_1104 (by decide) ?_
  refine lv_iadd hx hb dL_law_1105 ?_
  refine va_sld hx hb hX hbl hbA hSt.2.2.2.2 (lw_in 4 rfl (by omega) hL) dL_law_1106 ?_
  refine lv_aload_n hx hb dL_law_1107 rfl (lv_at hl 3 rfl) ?_
  refine lv_iload_n hx hb dL_law_1108 rfl (lv_at hl 0 rfl) ?_
  refine lv_iconst (v := (5 : Int32)) hx hb dL_law_1109 (by decide) ?_
  refine lv_iadd hx hb dL_law_1110 ?_
  refine va_sld hx hb hX hbl hbA hSt.2.2.2.2 (lw_in 5 rfl (by omega) hL) dL_law_1111 ?_
  refine lw_mi (va_runV (As := [.int (xs (nI (6 * t) + 1).toNatClampNeg), .int (xs (nI (6 * t) + 2).toNatClampNeg), .int (xs (nI (6 * t) + 3).toNatClampNeg), .int (xs (nI (6 * t) + 4).toNatClampNeg), .int (xs (nI (6 * t) + 5).toNatClampNeg)]) (rest := [.int r]) ⟨hx, hb, hml, hown, hts⟩ (CX10_copy l D cI cS cP am (zA am 20) n σm σm' r (xs (nI (6 * t) + 1).toNatClampNeg) (xs (nI (6 * t) + 2).toNatClampNeg) (xs (nI (6 * t) + 3).toNatClampNeg) (xs (nI (6 * t) + 4).toNatClampNeg) (xs (nI (6 * t) + 5).toNatClampNeg) f2) (cwV 5 hts gL_law_X10_copy rfl rfl rfl (by decide +kernel) ⟨Nat.le_of_ble_eq_true rfl, Nat.le_of_ble_eq_true rfl⟩) (z_preV (o := 0) hN hK hSt.2.2.1 hSt.2.2.2.1 (by decide) zm_0 rfl) rfl rfl hl.1 rfl (lv_room (Nat.le_of_ble_eq_true rfl)) dL_law_1112 ⟨hcs.1, hcs.2⟩) hA hSt (fun H locs hSt => ?_)
  exact lv_icmp_eq (tgt := 1248) hx hb dL_law_1115 (by decide) (fun _ => kk H locs σx' σm' hSt f3) (fun z => absurd rfl z)
set_option maxHeartbeats 8000000 in
set_option maxRecDepth 100000 in
theorem law_c28 {p : Program} {l : Launch} {e : Env} {s : State} {m : MethodId} {below : List Frame} {meth : Method} {c : Code} {b L t : Nat} {xs : Nat → Int32} {D : va_G} {cI cS cP : ClassId} {ax am : Nat → Nat} {H : Heap} {locs : List Loc} {cells slots : Nat} {ls : Array Slot} {σx σm : zMem} {Q : State → Prop} (hC : lw_Ctx p s m c b L xs D cI cS cP ax am) (hL : L ≤ 3072) (ht : 6 * t + 6 ≤ L) (hcs : cells ≤ 600000 ∧ slots ≤ 7302250) (hl : lv_has ls 4 [(3, .int (nI (6 * t))), (2, .ref (am 0)), (1, .ref (ax 0)), (0, .ref b)]) (hSt : lw_St s D cI cS cP ax am H locs σx σm) (hR : zR t σx σm) (kk : ∀ (H : Heap) (locs : List Loc) (σx σm : zMem), lw_St s D cI cS cP ax am H locs σx σm → zR (t + 1) σx σm → W p l e room_1 s m #[Value.ref b] below meth c H locs cells slots Q (F0 m 1248 ls [])) : W p l e room_1 s m #[Value.ref b] below meth c H locs cells slots Q (F0 m 1120 ls []) := by
  obtain ⟨hx, hb, hml, hown, hts, hX, hbl, hK, hN, hA⟩ := hC
  have hbA : ¬ (fun q : Nat => s.heap.size ≤ q) b := Nat.not_le.mpr hbl
  obtain ⟨n, hn⟩ : ∃ n : Nat, 6000 < n := ⟨6001, Nat.lt_succ_self _⟩
  obtain ⟨r, σx', σm', f1, f2, f3⟩ := tell_e n t (xs (nI (6 * t) + 1).toNatClampNeg) σx σm hR
  have f1 : FX9_tell n σx (xs (nI (6 * t) + 1).toNatClampNeg) = some (r, σx') := f1
  have f2 : FX10_tell n σm (xs (nI (6 * t) + 1).toNatClampNeg) = some (r, σm') := f2
  refine lv_aload_n hx hb dL_law_1120 rfl (lv_at hl 2 rfl) ?_
  refine lv_aload_n hx hb dL_law_1121 rfl (lv_at hl 3 rfl) ?_
  refine lv_iload_n hx hb dL_law_1122 rfl (lv_at hl 0 rfl) ?_
  refine lv_iconst (v := (1 : Int32)) hx hb dL_law_1123 (by decide) ?_
  refine lv_iadd hx hb dL_law_1124 ?_
  refine va_sld hx hb hX hbl hbA hSt.2.2.2.2 (lw_in 1 rfl (by omega) hL) dL_law_1125 ?_
  refine lw_xi (va_runV (As := [.int (xs (nI (6 * t) + 1).toNatClampNeg)]) (rest := []) ⟨hx, hb, hml, hown, hts⟩ (CX9_tell l D cI cS cP ax (zA ax 41) n σx σx' r (xs (nI (6 * t) + 1).toNatClampNeg) f1) (cwV 1 hts gL_law_X9_tell rfl rfl rfl (by decide +kernel) ⟨Nat.le_of_ble_eq_true rfl, Nat.le_of_ble_eq_true rfl⟩) (z_preV (o := 0) hN hK hSt.1 hSt.2.1 (by decide) (zx_8 rfl) rfl) rfl rfl hl.1 rfl (lv_room (Nat.le_of_ble_eq_true rfl)) dL_law_1126 ⟨hcs.1, hcs.2⟩) hA hSt (fun H locs hSt => ?_)
  refine lv_aload_n hx hb dL_law_1129 rfl (lv_at hl 1 rfl) ?_
  refine lv_aload_n hx hb dL_law_1130 rfl (lv_at hl 3 rfl) ?_
  refine lv_iload_n hx hb dL_law_1131 rfl (lv_at hl 0 rfl) ?_
  refine lv_iconst (v := (1 : Int32)) hx hb dL_law_1132 (by decide) ?_
  refine lv_iadd hx hb dL_law_1133 ?_
  refine va_sld hx hb hX hbl hbA hSt.2.2.2.2 (lw_in 1 rfl (by omega) hL) dL_law_1134 ?_
  refine lw_mi (va_runV (As := [.int (xs (nI (6 * t) + 1).toNatClampNeg)]) (rest := [.int r]) ⟨hx, hb, hml, hown, hts⟩ (CX10_tell l D cI cS cP am (zA am 20) n σm σm' r (xs (nI (6 * t) + 1).toNatClampNeg) f2) (cwV 1 hts gL_law_X10_tell rfl rfl rfl (by decide +kernel) ⟨Nat.le_of_ble_eq_true rfl, Nat.le_of_ble_eq_true rfl⟩) (z_preV (o := 0) hN hK hSt.2.2.1 hSt.2.2.2.1 (by decide) zm_0 rfl) rfl rfl hl.1 rfl (lv_room (Nat.le_of_ble_eq_true rfl)) dL_law_1135 ⟨hcs.1, hcs.2⟩) hA hSt (fun H locs hSt => ?_)
  exact lv_icmp_eq (tgt := 1248) hx hb dL_law_1138 (by decide) (fun _ => kk H locs σx' σm' hSt f3) (fun z => absurd rfl z)
set_option maxHeartbeats 8000000 in
set_option maxRecDepth 100000 in
theorem law_c29 {p : Program} {l : Launch} {e : Env} {s : State} {m : MethodId} {below : List Frame} {meth : Method} {c : Code} {b L t : Nat} {xs : Nat → Int32} {D : va_G} {cI cS cP : ClassId} {ax am : Nat → Nat} {H : Heap} {locs : List Loc} {cells slots : Nat} {ls : Array Slot} {σx σm : zMem} {Q : State → Prop} (hC : lw_Ctx p s m c b L xs D cI cS cP ax am) (hL : L ≤ 3072) (ht : 6 * t + 6 ≤ L) (hcs : cells ≤ 600000 ∧ slots ≤ 7302250) (hl : lv_has ls 4 [(3, .int (nI (6 * t))), (2, .ref (am 0)), (1, .ref (ax 0)), (0, .ref b)]) (hSt : lw_St s D cI cS cP ax am H locs σx σm) (hR : zR t σx σm) (kk : ∀ (H : Heap) (locs : List Loc) (σx σm : zMem), lw_St s D cI cS cP ax am H locs σx σm → zR (t + 1) σx σm → W p l e room_1 s m #[Value.ref b] below meth c H locs cells slots Q (F0 m 1248 ls [])) : W p l e room_1 s m #[Value.ref b] below meth c H locs cells slots Q (F0 m 1143 ls []) := by
  obtain ⟨hx, hb, hml, hown, hts, hX, hbl, hK, hN, hA⟩ := hC
  have hbA : ¬ (fun q : Nat => s.heap.size ≤ q) b := Nat.not_le.mpr hbl
  obtain ⟨n, hn⟩ : ∃ n : Nat, 6000 < n := ⟨6001, Nat.lt_succ_self _⟩
  obtain ⟨r, σx', σm', f1, f2, f3⟩ := greet_e n t (xs (nI (6 * t) + 1).toNatClampNeg) σx σm hR
  have f1 : FX9_greet n σx (xs (nI (6 * t) + 1).toNatClampNeg) = some (r, σx') := f1
  have f2 : FX10_greet n σm (xs (nI (6 * t) + 1).toNatClampNeg) = some (r, σm') := f2
  refine lv_aload_n hx hb dL_law_1143 rfl (lv_at hl 2 rfl) ?_
  refine lv_aload_n hx hb dL_law_1144 rfl (lv_at hl 3 rfl) ?_
  refine lv_iload_n hx hb dL_law_1145 rfl (lv_at hl 0 rfl) ?_
  refine lv_iconst (v := (1 : Int32)) hx hb dL_law_1146 (by decide) ?_
  refine lv_iadd hx hb dL_law_1147 ?_
  refine va_sld hx hb hX hbl hbA hSt.2.2.2.2 (lw_in 1 rfl (by omega) hL) dL_law_1148 ?_
  refine lw_xi (va_runV (As := [.int (xs (nI (6 * t) + 1).toNatClampNeg)]) (rest := []) ⟨hx, hb, hml, hown, hts⟩ (CX9_greet l D cI cS cP ax (zA ax 41) n σx σx' r (xs (nI (6 * t) + 1).toNatClampNeg) f1) (cwV 1 hts gL_law_X9_greet rfl rfl rfl (by decide +kernel) ⟨Nat.le_of_ble_eq_true rfl, Nat.le_of_ble_eq_true rfl⟩) (z_preV (o := 0) hN hK hSt.1 hSt.2.1 (by decide) (zx_8 rfl) rfl) rfl rfl hl.1 rfl (lv_room (Nat.le_of_ble_eq_true rfl)) dL_law_1149 ⟨hcs.1, hcs.2⟩) hA hSt (fun H locs hSt => ?_)
  refine lv_aload_n hx hb dL_law_1152 rfl (lv_at hl 1 rfl) ?_
  refine lv_aload_n hx hb dL_law_1153 rfl (lv_at hl 3 rfl) ?_
  refine lv_iload_n hx hb dL_law_1154 rfl (lv_at hl 0 rfl) ?_
  refine lv_iconst (v := (1 : Int32)) hx hb dL_law_1155 (by decide) ?_
  refine lv_iadd hx hb dL_law_1156 ?_
  refine va_sld hx hb hX hbl hbA hSt.2.2.2.2 (lw_in 1 rfl (by omega) hL) dL_law_1157 ?_
  refine lw_mi (va_runV (As := [.int (xs (nI (6 * t) + 1).toNatClampNeg)]) (rest := [.int r]) ⟨hx, hb, hml, hown, hts⟩ (CX10_greet l D cI cS cP am (zA am 20) n σm σm' r (xs (nI (6 * t) + 1).toNatClampNeg) f2) (cwV 1 hts gL_law_X10_greet rfl rfl rfl (by decide +kernel) ⟨Nat.le_of_ble_eq_true rfl, Nat.le_of_ble_eq_true rfl⟩) (z_preV (o := 0) hN hK hSt.2.2.1 hSt.2.2.2.1 (by decide) zm_0 rfl) rfl rfl hl.1 rfl (lv_room (Nat.le_of_ble_eq_true rfl)) dL_law_1158 ⟨hcs.1, hcs.2⟩) hA hSt (fun H locs hSt => ?_)
  exact lv_icmp_eq (tgt := 1248) hx hb dL_law_1161 (by decide) (fun _ => kk H locs σx' σm' hSt f3) (fun z => absurd rfl z)
set_option maxHeartbeats 8000000 in
set_option maxRecDepth 100000 in
theorem law_c30 {p : Program} {l : Launch} {e : Env} {s : State} {m : MethodId} {below : List Frame} {meth : Method} {c : Code} {b L t : Nat} {xs : Nat → Int32} {D : va_G} {cI cS cP : ClassId} {ax am : Nat → Nat} {H : Heap} {locs : List Loc} {cells slots : Nat} {ls : Array Slot} {σx σm : zMem} {Q : State → Prop} (hC : lw_Ctx p s m c b L xs D cI cS cP ax am) (hL : L ≤ 3072) (ht : 6 * t + 6 ≤ L) (hcs : cells ≤ 600000 ∧ slots ≤ 7302250) (hl : lv_has ls 4 [(3, .int (nI (6 * t))), (2, .ref (am 0)), (1, .ref (ax 0)), (0, .ref b)]) (hSt : lw_St s D cI cS cP ax am H locs σx σm) (hR : zR t σx σm) (kk : ∀ (H : Heap) (locs : List Loc) (σx σm : zMem), lw_St s D cI cS cP ax am H locs σx σm → zR (t + 1) σx σm → W p l e room_1 s m #[Value.ref b] below meth c H locs cells slots Q (F0 m 1248 ls [])) : W p l e room_1 s m #[Value.ref b] below meth c H locs cells slots Q (F0 m 1166 ls []) := by
  obtain ⟨hx, hb, hml, hown, hts, hX, hbl, hK, hN, hA⟩ := hC
  have hbA : ¬ (fun q : Nat => s.heap.size ≤ q) b := Nat.not_le.mpr hbl
  obtain ⟨n, hn⟩ : ∃ n : Nat, 6000 < n := ⟨6001, Nat.lt_succ_self _⟩
  obtain ⟨r, σx', σm', f1, f2, f3⟩ := as_e n t (xs (nI (6 * t) + 1).toNatClampNeg) (xs (nI (6 * t) + 2).toNatClampNeg) σx σm hR
  have f1 : FX9_as n σx (xs (nI (6 * t) + 1).toNatClampNeg) (xs (nI (6 * t) + 2).toNatClampNeg) = some (r, σx') := f1
  have f2 : FX10_as n σm (xs (nI (6 * t) + 1).toNatClampNeg) (xs (nI (6 * t) + 2).toNatClampNeg) = some (r, σm') := f2
  refine lv_aload_n hx hb dL_law_1166 rfl (lv_at hl 2 rfl) ?_
  refine lv_aload_n hx hb dL_law_1167 rfl (lv_at hl 3 rfl) ?_
  refine lv_iload_n hx hb dL_law_1168 rfl (lv_at hl 0 rfl) ?_
  refine lv_iconst (v := (1 : Int32)) hx hb dL_law_1169 (by decide) ?_
  refine lv_iadd hx hb dL_law_1170 ?_
  refine va_sld hx hb hX hbl hbA hSt.2.2.2.2 (lw_in 1 rfl (by omega) hL) dL_law_1171 ?_
  refine lv_aload_n hx hb dL_law_1172 rfl (lv_at hl 3 rfl) ?_
  refine lv_iload_n hx hb dL_law_1173 rfl (lv_at hl 0 rfl) ?_
  refine lv_iconst (v := (2 : Int32)) hx hb dL_law_1174 (by decide) ?_
  refine lv_iadd hx hb dL_law_1175 ?_
  refine va_sld hx hb hX hbl hbA hSt.2.2.2.2 (lw_in 2 rfl (by omega) hL) dL_law_1176 ?_
  refine lw_xi (va_runV (As := [.int (xs (nI (6 * t) + 1).toNatClampNeg), .int (xs (nI (6 * t) + 2).toNatClampNeg)]) (rest := []) ⟨hx, hb, hml, hown, hts⟩ (CX9_as l D cI cS cP ax (zA ax 41) n σx σx' r (xs (nI (6 * t) + 1).toNatClampNeg) (xs (nI (6 * t) + 2).toNatClampNeg) f1) (cwV 2 hts gL_law_X9_as rfl rfl rfl (by decide +kernel) ⟨Nat.le_of_ble_eq_true rfl, Nat.le_of_ble_eq_true rfl⟩) (z_preV (o := 0) hN hK hSt.1 hSt.2.1 (by decide) (zx_8 rfl) rfl) rfl rfl hl.1 rfl (lv_room (Nat.le_of_ble_eq_true rfl)) dL_law_1177 ⟨hcs.1, hcs.2⟩) hA hSt (fun H locs hSt => ?_)
  refine lv_aload_n hx hb dL_law_1180 rfl (lv_at hl 1 rfl) ?_
  refine lv_aload_n hx hb dL_law_1181 rfl (lv_at hl 3 rfl) ?_
  refine lv_iload_n hx hb dL_law_1182 rfl (lv_at hl 0 rfl) ?_
  refine lv_iconst (v := (1 : Int32)) hx hb dL_law_1183 (by decide) ?_
  refine lv_iadd hx hb dL_law_1184 ?_
  refine va_sld hx hb hX hbl hbA hSt.2.2.2.2 (lw_in 1 rfl (by omega) hL) dL_law_1185 ?_
  refine lv_aload_n hx hb dL_law_1186 rfl (lv_at hl 3 rfl) ?_
  refine lv_iload_n hx hb dL_law_1187 rfl (lv_at hl 0 rfl) ?_
  refine lv_iconst (v := (2 : Int32)) hx hb dL_law_1188 (by decide) ?_
  refine lv_iadd hx hb dL_law_1189 ?_
  refine va_sld hx hb hX hbl hbA hSt.2.2.2.2 (lw_in 2 rfl (by omega) hL) dL_law_1190 ?_
  refine lw_mi (va_runV (As := [.int (xs (nI (6 * t) + 1).toNatClampNeg), .int (xs (nI (6 * t) + 2).toNatClampNeg)]) (rest := [.int r]) ⟨hx, hb, hml, hown, hts⟩ (CX10_as l D cI cS cP am (zA am 20) n σm σm' r (xs (nI (6 * t) + 1).toNatClampNeg) (xs (nI (6 * t) + 2).toNatClampNeg) f2) (cwV 2 hts gL_law_X10_as rfl rfl rfl (by decide +kernel) ⟨Nat.le_of_ble_eq_true rfl, Nat.le_of_ble_eq_true rfl⟩) (z_preV (o := 0) hN hK hSt.2.2.1 hSt.2.2.2.1 (by decide) zm_0 rfl) rfl rfl hl.1 rfl (lv_room (Nat.le_of_ble_eq_true rfl)) dL_law_1191 ⟨hcs.1, hcs.2⟩) hA hSt (fun H locs hSt => ?_)
  exact lv_icmp_eq (tgt := 1248) hx hb dL_law_1194 (by decide) (fun _ => kk H locs σx' σm' hSt f3) (fun z => absurd rfl z)
set_option maxHeartbeats 8000000 in
set_option maxRecDepth 100000 in
theorem law_c31 {p : Program} {l : Launch} {e : Env} {s : State} {m : MethodId} {below : List Frame} {meth : Method} {c : Code} {b L t : Nat} {xs : Nat → Int32} {D : va_G} {cI cS cP : ClassId} {ax am : Nat → Nat} {H : Heap} {locs : List Loc} {cells slots : Nat} {ls : Array Slot} {σx σm : zMem} {Q : State → Prop} (hC : lw_Ctx p s m c b L xs D cI cS cP ax am) (hL : L ≤ 3072) (ht : 6 * t + 6 ≤ L) (hcs : cells ≤ 600000 ∧ slots ≤ 7302250) (hl : lv_has ls 4 [(3, .int (nI (6 * t))), (2, .ref (am 0)), (1, .ref (ax 0)), (0, .ref b)]) (hSt : lw_St s D cI cS cP ax am H locs σx σm) (hR : zR t σx σm) (kk : ∀ (H : Heap) (locs : List Loc) (σx σm : zMem), lw_St s D cI cS cP ax am H locs σx σm → zR (t + 1) σx σm → W p l e room_1 s m #[Value.ref b] below meth c H locs cells slots Q (F0 m 1248 ls [])) : W p l e room_1 s m #[Value.ref b] below meth c H locs cells slots Q (F0 m 1199 ls []) := by
  obtain ⟨hx, hb, hml, hown, hts, hX, hbl, hK, hN, hA⟩ := hC
  have hbA : ¬ (fun q : Nat => s.heap.size ≤ q) b := Nat.not_le.mpr hbl
  obtain ⟨n, hn⟩ : ∃ n : Nat, 6000 < n := ⟨6001, Nat.lt_succ_self _⟩
  obtain ⟨r, σx', σm', f1, f2, f3⟩ := trace_e n t σx σm hR
  have f1 : FX9_trace n σx  = some (r, σx') := f1
  have f2 : FX10_trace n σm  = some (r, σm') := f2
  refine lv_aload_n hx hb dL_law_1199 rfl (lv_at hl 2 rfl) ?_
  refine lw_xi (va_runV (As := []) (rest := []) ⟨hx, hb, hml, hown, hts⟩ (CX9_trace l D cI cS cP ax (zA ax 41) n σx σx' r  f1) (cwV 0 hts gL_law_X9_trace rfl rfl rfl (by decide +kernel) ⟨Nat.le_of_ble_eq_true rfl, Nat.le_of_ble_eq_true rfl⟩) (z_preV (o := 0) hN hK hSt.1 hSt.2.1 (by decide) (zx_8 rfl) rfl) rfl rfl hl.1 rfl (lv_room (Nat.le_of_ble_eq_true rfl)) dL_law_1200 ⟨hcs.1, hcs.2⟩) hA hSt (fun H locs hSt => ?_)
  refine lv_aload_n hx hb dL_law_1203 rfl (lv_at hl 1 rfl) ?_
  refine lw_mi (va_runV (As := []) (rest := [.int r]) ⟨hx, hb, hml, hown, hts⟩ (CX10_trace l D cI cS cP am (zA am 20) n σm σm' r  f2) (cwV 0 hts gL_law_X10_trace rfl rfl rfl (by decide +kernel) ⟨Nat.le_of_ble_eq_true rfl, Nat.le_of_ble_eq_true rfl⟩) (z_preV (o := 0) hN hK hSt.2.2.1 hSt.2.2.2.1 (by decide) zm_0 rfl) rfl rfl hl.1 rfl (lv_room (Nat.le_of_ble_eq_true rfl)) dL_law_1204 ⟨hcs.1, hcs.2⟩) hA hSt (fun H locs hSt => ?_)
  exact lv_icmp_eq (tgt := 1248) hx hb dL_law_1207 (by decide) (fun _ => kk H locs σx' σm' hSt f3) (fun z => absurd rfl z)
set_option maxHeartbeats 8000000 in
set_option maxRecDepth 100000 in
theorem law_c32 {p : Program} {l : Launch} {e : Env} {s : State} {m : MethodId} {below : List Frame} {meth : Method} {c : Code} {b L t : Nat} {xs : Nat → Int32} {D : va_G} {cI cS cP : ClassId} {ax am : Nat → Nat} {H : Heap} {locs : List Loc} {cells slots : Nat} {ls : Array Slot} {σx σm : zMem} {Q : State → Prop} (hC : lw_Ctx p s m c b L xs D cI cS cP ax am) (hL : L ≤ 3072) (ht : 6 * t + 6 ≤ L) (hcs : cells ≤ 600000 ∧ slots ≤ 7302250) (hl : lv_has ls 4 [(3, .int (nI (6 * t))), (2, .ref (am 0)), (1, .ref (ax 0)), (0, .ref b)]) (hSt : lw_St s D cI cS cP ax am H locs σx σm) (hR : zR t σx σm) (kk : ∀ (H : Heap) (locs : List Loc) (σx σm : zMem), lw_St s D cI cS cP ax am H locs σx σm → zR (t + 1) σx σm → W p l e room_1 s m #[Value.ref b] below meth c H locs cells slots Q (F0 m 1248 ls [])) : W p l e room_1 s m #[Value.ref b] below meth c H locs cells slots Q (F0 m 1212 ls []) := by
  obtain ⟨hx, hb, hml, hown, hts, hX, hbl, hK, hN, hA⟩ := hC
  have hbA : ¬ (fun q : Nat => s.heap.size ≤ q) b := Nat.not_le.mpr hbl
  obtain ⟨n, hn⟩ : ∃ n : Nat, 6000 < n := ⟨6001, Nat.lt_succ_self _⟩
  obtain ⟨r, σx', σm', f1, f2, f3⟩ := fault_e n t σx σm hR
  have f1 : FX9_fault n σx  = some (r, σx') := f1
  have f2 : FX10_fault n σm  = some (r, σm') := f2
  refine lv_aload_n hx hb dL_law_1212 rfl (lv_at hl 2 rfl) ?_
  refine lw_xi (va_runV (As := []) (rest := []) ⟨hx, hb, hml, hown, hts⟩ (CX9_fault l D cI cS cP ax (zA ax 41) n σx σx' r  f1) (cwV 0 hts gL_law_X9_fault rfl rfl rfl (by decide +kernel) ⟨Nat.le_of_ble_eq_true rfl, Nat.le_of_ble_eq_true rfl⟩) (z_preV (o := 0) hN hK hSt.1 hSt.2.1 (by decide) (zx_8 rfl) rfl) rfl rfl hl.1 rfl (lv_room (Nat.le_of_ble_eq_true rfl)) dL_law_1213 ⟨hcs.1, hcs.2⟩) hA hSt (fun H locs hSt => ?_)
  refine lv_aload_n hx hb dL_law_1216 rfl (lv_at hl 1 rfl) ?_
  refine lw_mi (va_runV (As := []) (rest := [.int r]) ⟨hx, hb, hml, hown, hts⟩ (CX10_fault l D cI cS cP am (zA am 20) n σm σm' r  f2) (cwV 0 hts gL_law_X10_fault rfl rfl rfl (by decide +kernel) ⟨Nat.le_of_ble_eq_true rfl, Nat.le_of_ble_eq_true rfl⟩) (z_preV (o := 0) hN hK hSt.2.2.1 hSt.2.2.2.1 (by decide) zm_0 rfl) rfl rfl hl.1 rfl (lv_room (Nat.le_of_ble_eq_true rfl)) dL_law_1217 ⟨hcs.1, hcs.2⟩) hA hSt (fun H locs hSt => ?_)
  exact lv_icmp_eq (tgt := 1248) hx hb dL_law_1220 (by decide) (fun _ => kk H locs σx' σm' hSt f3) (fun z => absurd rfl z)
set_option maxHeartbeats 8000000 in
set_option maxRecDepth 100000 in
theorem law_c33 {p : Program} {l : Launch} {e : Env} {s : State} {m : MethodId} {below : List Frame} {meth : Method} {c : Code} {b L t : Nat} {xs : Nat → Int32} {D : va_G} {cI cS cP : ClassId} {ax am : Nat → Nat} {H : Heap} {locs : List Loc} {cells slots : Nat} {ls : Array Slot} {σx σm : zMem} {Q : State → Prop} (hC : lw_Ctx p s m c b L xs D cI cS cP ax am) (hL : L ≤ 3072) (ht : 6 * t + 6 ≤ L) (hcs : cells ≤ 600000 ∧ slots ≤ 7302250) (hl : lv_has ls 4 [(3, .int (nI (6 * t))), (2, .ref (am 0)), (1, .ref (ax 0)), (0, .ref b)]) (hSt : lw_St s D cI cS cP ax am H locs σx σm) (hR : zR t σx σm) (kk : ∀ (H : Heap) (locs : List Loc) (σx σm : zMem), lw_St s D cI cS cP ax am H locs σx σm → zR (t + 1) σx σm → W p l e room_1 s m #[Value.ref b] below meth c H locs cells slots Q (F0 m 1248 ls [])) : W p l e room_1 s m #[Value.ref b] below meth c H locs cells slots Q (F0 m 1225 ls []) := by
  obtain ⟨hx, hb, hml, hown, hts, hX, hbl, hK, hN, hA⟩ := hC
  have hbA : ¬ (fun q : Nat => s.heap.size ≤ q) b := Nat.not_le.mpr hbl
  obtain ⟨n, hn⟩ : ∃ n : Nat, 6000 < n := ⟨6001, Nat.lt_succ_self _⟩
  obtain ⟨r, σx', σm', f1, f2, f3⟩ := many_e n t (xs (nI (6 * t) + 1).toNatClampNeg) σx σm hR
  have f1 : FX9_many n σx (xs (nI (6 * t) + 1).toNatClampNeg) = some (r, σx') := f1
  have f2 : FX10_many n σm (xs (nI (6 * t) + 1).toNatClampNeg) = some (r, σm') := f2
  refine lv_aload_n hx hb dL_law_1225 rfl (lv_at hl 2 rfl) ?_
  refine lv_aload_n hx hb dL_law_1226 rfl (lv_at hl 3 rfl) ?_
  refine lv_iload_n hx hb dL_law_1227 rfl (lv_at hl 0 rfl) ?_
  refine lv_iconst (v := (1 : Int32)) hx hb dL_law_1228 (by decide) ?_
  refine lv_iadd hx hb dL_law_1229 ?_
  refine va_sld hx hb hX hbl hbA hSt.2.2.2.2 (lw_in 1 rfl (by omega) hL) dL_law_1230 ?_
  refine lw_xi (va_runV (As := [.int (xs (nI (6 * t) + 1).toNatClampNeg)]) (rest := []) ⟨hx, hb, hml, hown, hts⟩ (CX9_many l D cI cS cP ax (zA ax 41) n σx σx' r (xs (nI (6 * t) + 1).toNatClampNeg) f1) (cwV 1 hts gL_law_X9_many rfl rfl rfl (by decide +kernel) ⟨Nat.le_of_ble_eq_true rfl, Nat.le_of_ble_eq_true rfl⟩) (z_preV (o := 0) hN hK hSt.1 hSt.2.1 (by decide) (zx_8 rfl) rfl) rfl rfl hl.1 rfl (lv_room (Nat.le_of_ble_eq_true rfl)) dL_law_1231 ⟨hcs.1, hcs.2⟩) hA hSt (fun H locs hSt => ?_)
  refine lv_aload_n hx hb dL_law_1234 rfl (lv_at hl 1 rfl) ?_
  refine lv_aload_n hx hb dL_law_1235 rfl (lv_at hl 3 rfl) ?_
  refine lv_iload_n hx hb dL_law_1236 rfl (lv_at hl 0 rfl) ?_
  refine lv_iconst (v := (1 : Int32)) hx hb dL_law_1237 (by decide) ?_
  refine lv_iadd hx hb dL_law_1238 ?_
  refine va_sld hx hb hX hbl hbA hSt.2.2.2.2 (lw_in 1 rfl (by omega) hL) dL_law_1239 ?_
  refine lw_mi (va_runV (As := [.int (xs (nI (6 * t) + 1).toNatClampNeg)]) (rest := [.int r]) ⟨hx, hb, hml, hown, hts⟩ (CX10_many l D cI cS cP am (zA am 20) n σm σm' r (xs (nI (6 * t) + 1).toNatClampNeg) f2) (cwV 1 hts gL_law_X10_many rfl rfl rfl (by decide +kernel) ⟨Nat.le_of_ble_eq_true rfl, Nat.le_of_ble_eq_true rfl⟩) (z_preV (o := 0) hN hK hSt.2.2.1 hSt.2.2.2.1 (by decide) zm_0 rfl) rfl rfl hl.1 rfl (lv_room (Nat.le_of_ble_eq_true rfl)) dL_law_1240 ⟨hcs.1, hcs.2⟩) hA hSt (fun H locs hSt => ?_)
  exact lv_icmp_eq (tgt := 1248) hx hb dL_law_1243 (by decide) (fun _ => kk H locs σx' σm' hSt f3) (fun z => absurd rfl z)
