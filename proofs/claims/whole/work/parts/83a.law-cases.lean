/-! ===== the law: its cases ===== -/
set_option maxHeartbeats 8000000 in
set_option maxRecDepth 100000 in
theorem law_c0 {p : Program} {l : Launch} {e : Env} {s : State} {m : MethodId} {below : List Frame} {meth : Method} {c : Code} {b L t : Nat} {xs : Nat → Int32} {D : va_G} {cI cS cP : ClassId} {ax am : Nat → Nat} {H : Heap} {locs : List Loc} {cells slots : Nat} {ls : Array Slot} {σx σm : zMem} {Q : State → Prop} (hC : lw_Ctx p s m c b L xs D cI cS cP ax am) (hL : L ≤ 3072) (ht : 6 * t + 6 ≤ L) (hcs : cells ≤ 600000 ∧ slots ≤ 7302250) (hl : lv_has ls 4 [(3, .int (nI (6 * t))), (2, .ref (am 0)), (1, .ref (ax 0)), (0, .ref b)]) (hSt : lw_St s D cI cS cP ax am H locs σx σm) (hR : zR t σx σm) (kk : ∀ (H : Heap) (locs : List Loc) (σx σm : zMem), lw_St s D cI cS cP ax am H locs σx σm → zR (t + 1) σx σm → W p l e room_1 s m #[Value.ref b] below meth c H locs cells slots Q (F0 m 1248 ls [])) : W p l e room_1 s m #[Value.ref b] below meth c H locs cells slots Q (F0 m 184 ls []) := by
  obtain ⟨hx, hb, hml, hown, hts, hX, hbl, hK, hN, hA⟩ := hC
  have hbA : ¬ (fun q : Nat => s.heap.size ≤ q) b := Nat.not_le.mpr hbl
  obtain ⟨n, hn⟩ : ∃ n : Nat, 6000 < n := ⟨6001, Nat.lt_succ_self _⟩
  obtain ⟨r, σx', σm', f1, f2, f3⟩ := province_e n t (by omega) (xs (nI (6 * t) + 1).toNatClampNeg) (xs (nI (6 * t) + 2).toNatClampNeg) (xs (nI (6 * t) + 3).toNatClampNeg) (xs (nI (6 * t) + 4).toNatClampNeg) σx σm hR
  have f1 : FX9_province n σx (xs (nI (6 * t) + 1).toNatClampNeg) (xs (nI (6 * t) + 2).toNatClampNeg) (xs (nI (6 * t) + 3).toNatClampNeg) (xs (nI (6 * t) + 4).toNatClampNeg) = some (r, σx') := f1
  have f2 : FX10_province n σm (xs (nI (6 * t) + 1).toNatClampNeg) (xs (nI (6 * t) + 2).toNatClampNeg) (xs (nI (6 * t) + 3).toNatClampNeg) (xs (nI (6 * t) + 4).toNatClampNeg) = some (r, σm') := f2
  refine lv_aload_n hx hb dL_law_184 rfl (lv_at hl 2 rfl) ?_
  refine lv_aload_n hx hb dL_law_185 rfl (lv_at hl 3 rfl) ?_
  refine lv_iload_n hx hb dL_law_186 rfl (lv_at hl 0 rfl) ?_
  refine lv_iconst (v := (1 : Int32)) hx hb dL_law_187 (by decide) ?_
  refine lv_iadd hx hb dL_law_188 ?_
  refine va_sld hx hb hX hbl hbA hSt.2.2.2.2 (lw_in 1 rfl (by omega) hL) dL_law_189 ?_
  refine lv_aload_n hx hb dL_law_190 rfl (lv_at hl 3 rfl) ?_
  refine lv_iload_n hx hb dL_law_191 rfl (lv_at hl 0 rfl) ?_
  refine lv_iconst (v := (2 : Int32)) hx hb dL_law_192 (by decide) ?_
  refine lv_iadd hx hb dL_law_193 ?_
  refine va_sld hx hb hX hbl hbA hSt.2.2.2.2 (lw_in 2 rfl (by omega) hL) dL_law_194 ?_
  refine lv_aload_n hx hb dL_law_195 rfl (lv_at hl 3 rfl) ?_
  refine lv_iload_n hx hb dL_law_196 rfl (lv_at hl 0 rfl) ?_
  refine lv_iconst (v := (3 : Int32)) hx hb dL_law_197 (by decide) ?_
  refine lv_iadd hx hb dL_law_198 ?_
  refine va_sld hx hb hX hbl hbA hSt.2.2.2.2 (lw_in 3 rfl (by omega) hL) dL_law_199 ?_
  refine lv_aload_n hx hb dL_law_200 rfl (lv_at hl 3 rfl) ?_
  refine lv_iload_n hx hb dL_law_201 rfl (lv_at hl 0 rfl) ?_
  refine lv_iconst (v := (4 : Int32)) hx hb dL_law_202 (by decide) ?_
  refine lv_iadd hx hb dL_law_203 ?_
  refine va_sld hx hb hX hbl hbA hSt.2.2.2.2 (lw_in 4 rfl (by omega) hL) dL_law_204 ?_
  refine lw_xi (va_runV (As := [.int (xs (nI (6 * t) + 1).toNatClampNeg), .int (xs (nI (6 * t) + 2).toNatClampNeg), .int (xs (nI (6 * t) + 3).toNatClampNeg), .int (xs (nI (6 * t) + 4).toNatClampNeg)]) (rest := []) ⟨hx, hb, hml, hown, hts⟩ (CX9_province l D cI cS cP ax (zA ax 41) n σx σx' r (xs (nI (6 * t) + 1).toNatClampNeg) (xs (nI (6 * t) + 2).toNatClampNeg) (xs (nI (6 * t) + 3).toNatClampNeg) (xs (nI (6 * t) + 4).toNatClampNeg) f1) (cwV 4 hts gL_law_X9_province rfl rfl rfl (by decide +kernel) ⟨Nat.le_of_ble_eq_true rfl, Nat.le_of_ble_eq_true rfl⟩) (z_preV (o := 0) hN hK hSt.1 hSt.2.1 (by decide) (zx_8 rfl) rfl) rfl rfl hl.1 rfl (lv_room (Nat.le_of_ble_eq_true rfl)) dL_law_205 ⟨hcs.1, hcs.2⟩) hA hSt (fun H locs hSt => ?_)
  refine lv_aload_n hx hb dL_law_208 rfl (lv_at hl 1 rfl) ?_
  refine lv_aload_n hx hb dL_law_209 rfl (lv_at hl 3 rfl) ?_
  refine lv_iload_n hx hb dL_law_210 rfl (lv_at hl 0 rfl) ?_
  refine lv_iconst (v := (1 : Int32)) hx hb dL_law_211 (by decide) ?_
  refine lv_iadd hx hb dL_law_212 ?_
  refine va_sld hx hb hX hbl hbA hSt.2.2.2.2 (lw_in 1 rfl (by omega) hL) dL_law_213 ?_
  refine lv_aload_n hx hb dL_law_214 rfl (lv_at hl 3 rfl) ?_
  refine lv_iload_n hx hb dL_law_215 rfl (lv_at hl 0 rfl) ?_
  refine lv_iconst (v := (2 : Int32)) hx hb dL_law_216 (by decide) ?_
  refine lv_iadd hx hb dL_law_217 ?_
  refine va_sld hx hb hX hbl hbA hSt.2.2.2.2 (lw_in 2 rfl (by omega) hL) dL_law_218 ?_
  refine lv_aload_n hx hb dL_law_219 rfl (lv_at hl 3 rfl) ?_
  refine lv_iload_n hx hb dL_law_220 rfl (lv_at hl 0 rfl) ?_
  refine lv_iconst (v := (3 : Int32)) hx hb dL_law_221 (by decide) ?_
  refine lv_iadd hx hb dL_law_222 ?_
  refine va_sld hx hb hX hbl hbA hSt.2.2.2.2 (lw_in 3 rfl (by omega) hL) dL_law_223 ?_
  refine lv_aload_n hx hb dL_law_224 rfl (lv_at hl 3 rfl) ?_
  refine lv_iload_n hx hb dL_law_225 rfl (lv_at hl 0 rfl) ?_
  refine lv_iconst (v := (4 : Int32)) hx hb dL_law_226 (by decide) ?_
  refine lv_iadd hx hb dL_law_227 ?_
  refine va_sld hx hb hX hbl hbA hSt.2.2.2.2 (lw_in 4 rfl (by omega) hL) dL_law_228 ?_
  refine lw_mi (va_runV (As := [.int (xs (nI (6 * t) + 1).toNatClampNeg), .int (xs (nI (6 * t) + 2).toNatClampNeg), .int (xs (nI (6 * t) + 3).toNatClampNeg), .int (xs (nI (6 * t) + 4).toNatClampNeg)]) (rest := [.int r]) ⟨hx, hb, hml, hown, hts⟩ (CX10_province l D cI cS cP am (zA am 20) n σm σm' r (xs (nI (6 * t) + 1).toNatClampNeg) (xs (nI (6 * t) + 2).toNatClampNeg) (xs (nI (6 * t) + 3).toNatClampNeg) (xs (nI (6 * t) + 4).toNatClampNeg) f2) (cwV 4 hts gL_law_X10_province rfl rfl rfl (by decide +kernel) ⟨Nat.le_of_ble_eq_true rfl, Nat.le_of_ble_eq_true rfl⟩) (z_preV (o := 0) hN hK hSt.2.2.1 hSt.2.2.2.1 (by decide) zm_0 rfl) rfl rfl hl.1 rfl (lv_room (Nat.le_of_ble_eq_true rfl)) dL_law_229 ⟨hcs.1, hcs.2⟩) hA hSt (fun H locs hSt => ?_)
  exact lv_icmp_eq (tgt := 1248) hx hb dL_law_232 (by decide) (fun _ => kk H locs σx' σm' hSt f3) (fun z => absurd rfl z)
set_option maxHeartbeats 8000000 in
set_option maxRecDepth 100000 in
theorem law_c1 {p : Program} {l : Launch} {e : Env} {s : State} {m : MethodId} {below : List Frame} {meth : Method} {c : Code} {b L t : Nat} {xs : Nat → Int32} {D : va_G} {cI cS cP : ClassId} {ax am : Nat → Nat} {H : Heap} {locs : List Loc} {cells slots : Nat} {ls : Array Slot} {σx σm : zMem} {Q : State → Prop} (hC : lw_Ctx p s m c b L xs D cI cS cP ax am) (hL : L ≤ 3072) (ht : 6 * t + 6 ≤ L) (hcs : cells ≤ 600000 ∧ slots ≤ 7302250) (hl : lv_has ls 4 [(3, .int (nI (6 * t))), (2, .ref (am 0)), (1, .ref (ax 0)), (0, .ref b)]) (hSt : lw_St s D cI cS cP ax am H locs σx σm) (hR : zR t σx σm) (kk : ∀ (H : Heap) (locs : List Loc) (σx σm : zMem), lw_St s D cI cS cP ax am H locs σx σm → zR (t + 1) σx σm → W p l e room_1 s m #[Value.ref b] below meth c H locs cells slots Q (F0 m 1248 ls [])) : W p l e room_1 s m #[Value.ref b] below meth c H locs cells slots Q (F0 m 237 ls []) := by
  obtain ⟨hx, hb, hml, hown, hts, hX, hbl, hK, hN, hA⟩ := hC
  have hbA : ¬ (fun q : Nat => s.heap.size ≤ q) b := Nat.not_le.mpr hbl
  obtain ⟨n, hn⟩ : ∃ n : Nat, 6000 < n := ⟨6001, Nat.lt_succ_self _⟩
  obtain ⟨r, σx', σm', f1, f2, f3⟩ := ofPerson_e n t (by omega) (by omega) (xs (nI (6 * t) + 1).toNatClampNeg) (xs (nI (6 * t) + 2).toNatClampNeg) σx σm hR
  have f1 : FX9_ofPerson n σx (xs (nI (6 * t) + 1).toNatClampNeg) (xs (nI (6 * t) + 2).toNatClampNeg) = some (r, σx') := f1
  have f2 : FX10_ofPerson n σm (xs (nI (6 * t) + 1).toNatClampNeg) (xs (nI (6 * t) + 2).toNatClampNeg) = some (r, σm') := f2
  refine lv_aload_n hx hb dL_law_237 rfl (lv_at hl 2 rfl) ?_
  refine lv_aload_n hx hb dL_law_238 rfl (lv_at hl 3 rfl) ?_
  refine lv_iload_n hx hb dL_law_239 rfl (lv_at hl 0 rfl) ?_
  refine lv_iconst (v := (1 : Int32)) hx hb dL_law_240 (by decide) ?_
  refine lv_iadd hx hb dL_law_241 ?_
  refine va_sld hx hb hX hbl hbA hSt.2.2.2.2 (lw_in 1 rfl (by omega) hL) dL_law_242 ?_
  refine lv_aload_n hx hb dL_law_243 rfl (lv_at hl 3 rfl) ?_
  refine lv_iload_n hx hb dL_law_244 rfl (lv_at hl 0 rfl) ?_
  refine lv_iconst (v := (2 : Int32)) hx hb dL_law_245 (by decide) ?_
  refine lv_iadd hx hb dL_law_246 ?_
  refine va_sld hx hb hX hbl hbA hSt.2.2.2.2 (lw_in 2 rfl (by omega) hL) dL_law_247 ?_
  refine lw_xi (va_runV (As := [.int (xs (nI (6 * t) + 1).toNatClampNeg), .int (xs (nI (6 * t) + 2).toNatClampNeg)]) (rest := []) ⟨hx, hb, hml, hown, hts⟩ (CX9_ofPerson l D cI cS cP ax (zA ax 41) n σx σx' r (xs (nI (6 * t) + 1).toNatClampNeg) (xs (nI (6 * t) + 2).toNatClampNeg) f1) (cwV 2 hts gL_law_X9_ofPerson rfl rfl rfl (by decide +kernel) ⟨Nat.le_of_ble_eq_true rfl, Nat.le_of_ble_eq_true rfl⟩) (z_preV (o := 0) hN hK hSt.1 hSt.2.1 (by decide) (zx_8 rfl) rfl) rfl rfl hl.1 rfl (lv_room (Nat.le_of_ble_eq_true rfl)) dL_law_248 ⟨hcs.1, hcs.2⟩) hA hSt (fun H locs hSt => ?_)
  refine lv_aload_n hx hb dL_law_251 rfl (lv_at hl 1 rfl) ?_
  refine lv_aload_n hx hb dL_law_252 rfl (lv_at hl 3 rfl) ?_
  refine lv_iload_n hx hb dL_law_253 rfl (lv_at hl 0 rfl) ?_
  refine lv_iconst (v := (1 : Int32)) hx hb dL_law_254 (by decide) ?_
  refine lv_iadd hx hb dL_law_255 ?_
  refine va_sld hx hb hX hbl hbA hSt.2.2.2.2 (lw_in 1 rfl (by omega) hL) dL_law_256 ?_
  refine lv_aload_n hx hb dL_law_257 rfl (lv_at hl 3 rfl) ?_
  refine lv_iload_n hx hb dL_law_258 rfl (lv_at hl 0 rfl) ?_
  refine lv_iconst (v := (2 : Int32)) hx hb dL_law_259 (by decide) ?_
  refine lv_iadd hx hb dL_law_260 ?_
  refine va_sld hx hb hX hbl hbA hSt.2.2.2.2 (lw_in 2 rfl (by omega) hL) dL_law_261 ?_
  refine lw_mi (va_runV (As := [.int (xs (nI (6 * t) + 1).toNatClampNeg), .int (xs (nI (6 * t) + 2).toNatClampNeg)]) (rest := [.int r]) ⟨hx, hb, hml, hown, hts⟩ (CX10_ofPerson l D cI cS cP am (zA am 20) n σm σm' r (xs (nI (6 * t) + 1).toNatClampNeg) (xs (nI (6 * t) + 2).toNatClampNeg) f2) (cwV 2 hts gL_law_X10_ofPerson rfl rfl rfl (by decide +kernel) ⟨Nat.le_of_ble_eq_true rfl, Nat.le_of_ble_eq_true rfl⟩) (z_preV (o := 0) hN hK hSt.2.2.1 hSt.2.2.2.1 (by decide) zm_0 rfl) rfl rfl hl.1 rfl (lv_room (Nat.le_of_ble_eq_true rfl)) dL_law_262 ⟨hcs.1, hcs.2⟩) hA hSt (fun H locs hSt => ?_)
  exact lv_icmp_eq (tgt := 1248) hx hb dL_law_265 (by decide) (fun _ => kk H locs σx' σm' hSt f3) (fun z => absurd rfl z)
set_option maxHeartbeats 8000000 in
set_option maxRecDepth 100000 in
theorem law_c2 {p : Program} {l : Launch} {e : Env} {s : State} {m : MethodId} {below : List Frame} {meth : Method} {c : Code} {b L t : Nat} {xs : Nat → Int32} {D : va_G} {cI cS cP : ClassId} {ax am : Nat → Nat} {H : Heap} {locs : List Loc} {cells slots : Nat} {ls : Array Slot} {σx σm : zMem} {Q : State → Prop} (hC : lw_Ctx p s m c b L xs D cI cS cP ax am) (hL : L ≤ 3072) (ht : 6 * t + 6 ≤ L) (hcs : cells ≤ 600000 ∧ slots ≤ 7302250) (hl : lv_has ls 4 [(3, .int (nI (6 * t))), (2, .ref (am 0)), (1, .ref (ax 0)), (0, .ref b)]) (hSt : lw_St s D cI cS cP ax am H locs σx σm) (hR : zR t σx σm) (kk : ∀ (H : Heap) (locs : List Loc) (σx σm : zMem), lw_St s D cI cS cP ax am H locs σx σm → zR (t + 1) σx σm → W p l e room_1 s m #[Value.ref b] below meth c H locs cells slots Q (F0 m 1248 ls [])) : W p l e room_1 s m #[Value.ref b] below meth c H locs cells slots Q (F0 m 270 ls []) := by
  obtain ⟨hx, hb, hml, hown, hts, hX, hbl, hK, hN, hA⟩ := hC
  have hbA : ¬ (fun q : Nat => s.heap.size ≤ q) b := Nat.not_le.mpr hbl
  obtain ⟨n, hn⟩ : ∃ n : Nat, 6000 < n := ⟨6001, Nat.lt_succ_self _⟩
  obtain ⟨r, σx', σm', f1, f2, f3⟩ := worth_e n t (xs (nI (6 * t) + 1).toNatClampNeg) σx σm hR
  have f1 : FX9_worth n σx (xs (nI (6 * t) + 1).toNatClampNeg) = some (r, σx') := f1
  have f2 : FX10_worth n σm (xs (nI (6 * t) + 1).toNatClampNeg) = some (r, σm') := f2
  refine lv_aload_n hx hb dL_law_270 rfl (lv_at hl 2 rfl) ?_
  refine lv_aload_n hx hb dL_law_271 rfl (lv_at hl 3 rfl) ?_
  refine lv_iload_n hx hb dL_law_272 rfl (lv_at hl 0 rfl) ?_
  refine lv_iconst (v := (1 : Int32)) hx hb dL_law_273 (by decide) ?_
  refine lv_iadd hx hb dL_law_274 ?_
  refine va_sld hx hb hX hbl hbA hSt.2.2.2.2 (lw_in 1 rfl (by omega) hL) dL_law_275 ?_
  refine lw_xi (va_runV (As := [.int (xs (nI (6 * t) + 1).toNatClampNeg)]) (rest := []) ⟨hx, hb, hml, hown, hts⟩ (CX9_worth l D cI cS cP ax (zA ax 41) n σx σx' r (xs (nI (6 * t) + 1).toNatClampNeg) f1) (cwV 1 hts gL_law_X9_worth rfl rfl rfl (by decide +kernel) ⟨Nat.le_of_ble_eq_true rfl, Nat.le_of_ble_eq_true rfl⟩) (z_preV (o := 0) hN hK hSt.1 hSt.2.1 (by decide) (zx_8 rfl) rfl) rfl rfl hl.1 rfl (lv_room (Nat.le_of_ble_eq_true rfl)) dL_law_276 ⟨hcs.1, hcs.2⟩) hA hSt (fun H locs hSt => ?_)
  refine lv_aload_n hx hb dL_law_279 rfl (lv_at hl 1 rfl) ?_
  refine lv_aload_n hx hb dL_law_280 rfl (lv_at hl 3 rfl) ?_
  refine lv_iload_n hx hb dL_law_281 rfl (lv_at hl 0 rfl) ?_
  refine lv_iconst (v := (1 : Int32)) hx hb dL_law_282 (by decide) ?_
  refine lv_iadd hx hb dL_law_283 ?_
  refine va_sld hx hb hX hbl hbA hSt.2.2.2.2 (lw_in 1 rfl (by omega) hL) dL_law_284 ?_
  refine lw_mi (va_runV (As := [.int (xs (nI (6 * t) + 1).toNatClampNeg)]) (rest := [.int r]) ⟨hx, hb, hml, hown, hts⟩ (CX10_worth l D cI cS cP am (zA am 20) n σm σm' r (xs (nI (6 * t) + 1).toNatClampNeg) f2) (cwV 1 hts gL_law_X10_worth rfl rfl rfl (by decide +kernel) ⟨Nat.le_of_ble_eq_true rfl, Nat.le_of_ble_eq_true rfl⟩) (z_preV (o := 0) hN hK hSt.2.2.1 hSt.2.2.2.1 (by decide) zm_0 rfl) rfl rfl hl.1 rfl (lv_room (Nat.le_of_ble_eq_true rfl)) dL_law_285 ⟨hcs.1, hcs.2⟩) hA hSt (fun H locs hSt => ?_)
  exact lv_icmp_eq (tgt := 1248) hx hb dL_law_288 (by decide) (fun _ => kk H locs σx' σm' hSt f3) (fun z => absurd rfl z)
set_option maxHeartbeats 8000000 in
set_option maxRecDepth 100000 in
theorem law_c3 {p : Program} {l : Launch} {e : Env} {s : State} {m : MethodId} {below : List Frame} {meth : Method} {c : Code} {b L t : Nat} {xs : Nat → Int32} {D : va_G} {cI cS cP : ClassId} {ax am : Nat → Nat} {H : Heap} {locs : List Loc} {cells slots : Nat} {ls : Array Slot} {σx σm : zMem} {Q : State → Prop} (hC : lw_Ctx p s m c b L xs D cI cS cP ax am) (hL : L ≤ 3072) (ht : 6 * t + 6 ≤ L) (hcs : cells ≤ 600000 ∧ slots ≤ 7302250) (hl : lv_has ls 4 [(3, .int (nI (6 * t))), (2, .ref (am 0)), (1, .ref (ax 0)), (0, .ref b)]) (hSt : lw_St s D cI cS cP ax am H locs σx σm) (hR : zR t σx σm) (kk : ∀ (H : Heap) (locs : List Loc) (σx σm : zMem), lw_St s D cI cS cP ax am H locs σx σm → zR (t + 1) σx σm → W p l e room_1 s m #[Value.ref b] below meth c H locs cells slots Q (F0 m 1248 ls [])) : W p l e room_1 s m #[Value.ref b] below meth c H locs cells slots Q (F0 m 293 ls []) := by
  obtain ⟨hx, hb, hml, hown, hts, hX, hbl, hK, hN, hA⟩ := hC
  have hbA : ¬ (fun q : Nat => s.heap.size ≤ q) b := Nat.not_le.mpr hbl
  obtain ⟨n, hn⟩ : ∃ n : Nat, 6000 < n := ⟨6001, Nat.lt_succ_self _⟩
  obtain ⟨r, σx', σm', f1, f2, f3⟩ := weigh_e n t (xs (nI (6 * t) + 1).toNatClampNeg) (xs (nI (6 * t) + 2).toNatClampNeg) σx σm hR
  have f1 : FX9_weigh n σx (xs (nI (6 * t) + 1).toNatClampNeg) (xs (nI (6 * t) + 2).toNatClampNeg) = some (r, σx') := f1
  have f2 : FX10_weigh n σm (xs (nI (6 * t) + 1).toNatClampNeg) (xs (nI (6 * t) + 2).toNatClampNeg) = some (r, σm') := f2
  refine lv_aload_n hx hb dL_law_293 rfl (lv_at hl 2 rfl) ?_
  refine lv_aload_n hx hb dL_law_294 rfl (lv_at hl 3 rfl) ?_
  refine lv_iload_n hx hb dL_law_295 rfl (lv_at hl 0 rfl) ?_
  refine lv_iconst (v := (1 : Int32)) hx hb dL_law_296 (by decide) ?_
  refine lv_iadd hx hb dL_law_297 ?_
  refine va_sld hx hb hX hbl hbA hSt.2.2.2.2 (lw_in 1 rfl (by omega) hL) dL_law_298 ?_
  refine lv_aload_n hx hb dL_law_299 rfl (lv_at hl 3 rfl) ?_
  refine lv_iload_n hx hb dL_law_300 rfl (lv_at hl 0 rfl) ?_
  refine lv_iconst (v := (2 : Int32)) hx hb dL_law_301 (by decide) ?_
  refine lv_iadd hx hb dL_law_302 ?_
  refine va_sld hx hb hX hbl hbA hSt.2.2.2.2 (lw_in 2 rfl (by omega) hL) dL_law_303 ?_
  refine lw_xi (va_runV (As := [.int (xs (nI (6 * t) + 1).toNatClampNeg), .int (xs (nI (6 * t) + 2).toNatClampNeg)]) (rest := []) ⟨hx, hb, hml, hown, hts⟩ (CX9_weigh l D cI cS cP ax (zA ax 41) n σx σx' r (xs (nI (6 * t) + 1).toNatClampNeg) (xs (nI (6 * t) + 2).toNatClampNeg) f1) (cwV 2 hts gL_law_X9_weigh rfl rfl rfl (by decide +kernel) ⟨Nat.le_of_ble_eq_true rfl, Nat.le_of_ble_eq_true rfl⟩) (z_preV (o := 0) hN hK hSt.1 hSt.2.1 (by decide) (zx_8 rfl) rfl) rfl rfl hl.1 rfl (lv_room (Nat.le_of_ble_eq_true rfl)) dL_law_304 ⟨hcs.1, hcs.2⟩) hA hSt (fun H locs hSt => ?_)
  refine lv_aload_n hx hb dL_law_307 rfl (lv_at hl 1 rfl) ?_
  refine lv_aload_n hx hb dL_law_308 rfl (lv_at hl 3 rfl) ?_
  refine lv_iload_n hx hb dL_law_309 rfl (lv_at hl 0 rfl) ?_
  refine lv_iconst (v := (1 : Int32)) hx hb dL_law_310 (by decide) ?_
  refine lv_iadd hx hb dL_law_311 ?_
  refine va_sld hx hb hX hbl hbA hSt.2.2.2.2 (lw_in 1 rfl (by omega) hL) dL_law_312 ?_
  refine lv_aload_n hx hb dL_law_313 rfl (lv_at hl 3 rfl) ?_
  refine lv_iload_n hx hb dL_law_314 rfl (lv_at hl 0 rfl) ?_
  refine lv_iconst (v := (2 : Int32)) hx hb dL_law_315 (by decide) ?_
  refine lv_iadd hx hb dL_law_316 ?_
  refine va_sld hx hb hX hbl hbA hSt.2.2.2.2 (lw_in 2 rfl (by omega) hL) dL_law_317 ?_
  refine lw_mi (va_runV (As := [.int (xs (nI (6 * t) + 1).toNatClampNeg), .int (xs (nI (6 * t) + 2).toNatClampNeg)]) (rest := [.int r]) ⟨hx, hb, hml, hown, hts⟩ (CX10_weigh l D cI cS cP am (zA am 20) n σm σm' r (xs (nI (6 * t) + 1).toNatClampNeg) (xs (nI (6 * t) + 2).toNatClampNeg) f2) (cwV 2 hts gL_law_X10_weigh rfl rfl rfl (by decide +kernel) ⟨Nat.le_of_ble_eq_true rfl, Nat.le_of_ble_eq_true rfl⟩) (z_preV (o := 0) hN hK hSt.2.2.1 hSt.2.2.2.1 (by decide) zm_0 rfl) rfl rfl hl.1 rfl (lv_room (Nat.le_of_ble_eq_true rfl)) dL_law_318 ⟨hcs.1, hcs.2⟩) hA hSt (fun H locs hSt => ?_)
  exact lv_icmp_eq (tgt := 1248) hx hb dL_law_321 (by decide) (fun _ => kk H locs σx' σm' hSt f3) (fun z => absurd rfl z)
set_option maxHeartbeats 8000000 in
set_option maxRecDepth 100000 in
theorem law_c4 {p : Program} {l : Launch} {e : Env} {s : State} {m : MethodId} {below : List Frame} {meth : Method} {c : Code} {b L t : Nat} {xs : Nat → Int32} {D : va_G} {cI cS cP : ClassId} {ax am : Nat → Nat} {H : Heap} {locs : List Loc} {cells slots : Nat} {ls : Array Slot} {σx σm : zMem} {Q : State → Prop} (hC : lw_Ctx p s m c b L xs D cI cS cP ax am) (hL : L ≤ 3072) (ht : 6 * t + 6 ≤ L) (hcs : cells ≤ 600000 ∧ slots ≤ 7302250) (hl : lv_has ls 4 [(3, .int (nI (6 * t))), (2, .ref (am 0)), (1, .ref (ax 0)), (0, .ref b)]) (hSt : lw_St s D cI cS cP ax am H locs σx σm) (hR : zR t σx σm) (kk : ∀ (H : Heap) (locs : List Loc) (σx σm : zMem), lw_St s D cI cS cP ax am H locs σx σm → zR (t + 1) σx σm → W p l e room_1 s m #[Value.ref b] below meth c H locs cells slots Q (F0 m 1248 ls [])) : W p l e room_1 s m #[Value.ref b] below meth c H locs cells slots Q (F0 m 326 ls []) := by
  obtain ⟨hx, hb, hml, hown, hts, hX, hbl, hK, hN, hA⟩ := hC
  have hbA : ¬ (fun q : Nat => s.heap.size ≤ q) b := Nat.not_le.mpr hbl
  obtain ⟨n, hn⟩ : ∃ n : Nat, 6000 < n := ⟨6001, Nat.lt_succ_self _⟩
  obtain ⟨r, σx', σm', f1, f2, f3⟩ := teach_e n t (xs (nI (6 * t) + 1).toNatClampNeg) (xs (nI (6 * t) + 2).toNatClampNeg) σx σm hR
  have f1 : FX9_teach n σx (xs (nI (6 * t) + 1).toNatClampNeg) (xs (nI (6 * t) + 2).toNatClampNeg) = some (r, σx') := f1
  have f2 : FX10_teach n σm (xs (nI (6 * t) + 1).toNatClampNeg) (xs (nI (6 * t) + 2).toNatClampNeg) = some (r, σm') := f2
  refine lv_aload_n hx hb dL_law_326 rfl (lv_at hl 2 rfl) ?_
  refine lv_aload_n hx hb dL_law_327 rfl (lv_at hl 3 rfl) ?_
  refine lv_iload_n hx hb dL_law_328 rfl (lv_at hl 0 rfl) ?_
  refine lv_iconst (v := (1 : Int32)) hx hb dL_law_329 (by decide) ?_
  refine lv_iadd hx hb dL_law_330 ?_
  refine va_sld hx hb hX hbl hbA hSt.2.2.2.2 (lw_in 1 rfl (by omega) hL) dL_law_331 ?_
  refine lv_aload_n hx hb dL_law_332 rfl (lv_at hl 3 rfl) ?_
  refine lv_iload_n hx hb dL_law_333 rfl (lv_at hl 0 rfl) ?_
  refine lv_iconst (v := (2 : Int32)) hx hb dL_law_334 (by decide) ?_
  refine lv_iadd hx hb dL_law_335 ?_
  refine va_sld hx hb hX hbl hbA hSt.2.2.2.2 (lw_in 2 rfl (by omega) hL) dL_law_336 ?_
  refine lw_xi (va_runV (As := [.int (xs (nI (6 * t) + 1).toNatClampNeg), .int (xs (nI (6 * t) + 2).toNatClampNeg)]) (rest := []) ⟨hx, hb, hml, hown, hts⟩ (CX9_teach l D cI cS cP ax (zA ax 41) n σx σx' r (xs (nI (6 * t) + 1).toNatClampNeg) (xs (nI (6 * t) + 2).toNatClampNeg) f1) (cwV 2 hts gL_law_X9_teach rfl rfl rfl (by decide +kernel) ⟨Nat.le_of_ble_eq_true rfl, Nat.le_of_ble_eq_true rfl⟩) (z_preV (o := 0) hN hK hSt.1 hSt.2.1 (by decide) (zx_8 rfl) rfl) rfl rfl hl.1 rfl (lv_room (Nat.le_of_ble_eq_true rfl)) dL_law_337 ⟨hcs.1, hcs.2⟩) hA hSt (fun H locs hSt => ?_)
  refine lv_aload_n hx hb dL_law_340 rfl (lv_at hl 1 rfl) ?_
  refine lv_aload_n hx hb dL_law_341 rfl (lv_at hl 3 rfl) ?_
  refine lv_iload_n hx hb dL_law_342 rfl (lv_at hl 0 rfl) ?_
  refine lv_iconst (v := (1 : Int32)) hx hb dL_law_343 (by decide) ?_
  refine lv_iadd hx hb dL_law_344 ?_
  refine va_sld hx hb hX hbl hbA hSt.2.2.2.2 (lw_in 1 rfl (by omega) hL) dL_law_345 ?_
  refine lv_aload_n hx hb dL_law_346 rfl (lv_at hl 3 rfl) ?_
  refine lv_iload_n hx hb dL_law_347 rfl (lv_at hl 0 rfl) ?_
  refine lv_iconst (v := (2 : Int32)) hx hb dL_law_348 (by decide) ?_
  refine lv_iadd hx hb dL_law_349 ?_
  refine va_sld hx hb hX hbl hbA hSt.2.2.2.2 (lw_in 2 rfl (by omega) hL) dL_law_350 ?_
  refine lw_mi (va_runV (As := [.int (xs (nI (6 * t) + 1).toNatClampNeg), .int (xs (nI (6 * t) + 2).toNatClampNeg)]) (rest := [.int r]) ⟨hx, hb, hml, hown, hts⟩ (CX10_teach l D cI cS cP am (zA am 20) n σm σm' r (xs (nI (6 * t) + 1).toNatClampNeg) (xs (nI (6 * t) + 2).toNatClampNeg) f2) (cwV 2 hts gL_law_X10_teach rfl rfl rfl (by decide +kernel) ⟨Nat.le_of_ble_eq_true rfl, Nat.le_of_ble_eq_true rfl⟩) (z_preV (o := 0) hN hK hSt.2.2.1 hSt.2.2.2.1 (by decide) zm_0 rfl) rfl rfl hl.1 rfl (lv_room (Nat.le_of_ble_eq_true rfl)) dL_law_351 ⟨hcs.1, hcs.2⟩) hA hSt (fun H locs hSt => ?_)
  exact lv_icmp_eq (tgt := 1248) hx hb dL_law_354 (by decide) (fun _ => kk H locs σx' σm' hSt f3) (fun z => absurd rfl z)
set_option maxHeartbeats 8000000 in
set_option maxRecDepth 100000 in
theorem law_c5 {p : Program} {l : Launch} {e : Env} {s : State} {m : MethodId} {below : List Frame} {meth : Method} {c : Code} {b L t : Nat} {xs : Nat → Int32} {D : va_G} {cI cS cP : ClassId} {ax am : Nat → Nat} {H : Heap} {locs : List Loc} {cells slots : Nat} {ls : Array Slot} {σx σm : zMem} {Q : State → Prop} (hC : lw_Ctx p s m c b L xs D cI cS cP ax am) (hL : L ≤ 3072) (ht : 6 * t + 6 ≤ L) (hcs : cells ≤ 600000 ∧ slots ≤ 7302250) (hl : lv_has ls 4 [(3, .int (nI (6 * t))), (2, .ref (am 0)), (1, .ref (ax 0)), (0, .ref b)]) (hSt : lw_St s D cI cS cP ax am H locs σx σm) (hR : zR t σx σm) (kk : ∀ (H : Heap) (locs : List Loc) (σx σm : zMem), lw_St s D cI cS cP ax am H locs σx σm → zR (t + 1) σx σm → W p l e room_1 s m #[Value.ref b] below meth c H locs cells slots Q (F0 m 1248 ls [])) : W p l e room_1 s m #[Value.ref b] below meth c H locs cells slots Q (F0 m 359 ls []) := by
  obtain ⟨hx, hb, hml, hown, hts, hX, hbl, hK, hN, hA⟩ := hC
  have hbA : ¬ (fun q : Nat => s.heap.size ≤ q) b := Nat.not_le.mpr hbl
  obtain ⟨n, hn⟩ : ∃ n : Nat, 6000 < n := ⟨6001, Nat.lt_succ_self _⟩
  obtain ⟨r, σx', σm', f1, f2, f3⟩ := sharpen_e n t (xs (nI (6 * t) + 1).toNatClampNeg) (xs (nI (6 * t) + 2).toNatClampNeg) σx σm hR
  have f1 : FX9_sharpen n σx (xs (nI (6 * t) + 1).toNatClampNeg) (xs (nI (6 * t) + 2).toNatClampNeg) = some (r, σx') := f1
  have f2 : FX10_sharpen n σm (xs (nI (6 * t) + 1).toNatClampNeg) (xs (nI (6 * t) + 2).toNatClampNeg) = some (r, σm') := f2
  refine lv_aload_n hx hb dL_law_359 rfl (lv_at hl 2 rfl) ?_
  refine lv_aload_n hx hb dL_law_360 rfl (lv_at hl 3 rfl) ?_
  refine lv_iload_n hx hb dL_law_361 rfl (lv_at hl 0 rfl) ?_
  refine lv_iconst (v := (1 : Int32)) hx hb dL_law_362 (by decide) ?_
  refine lv_iadd hx hb dL_law_363 ?_
  refine va_sld hx hb hX hbl hbA hSt.2.2.2.2 (lw_in 1 rfl (by omega) hL) dL_law_364 ?_
  refine lv_aload_n hx hb dL_law_365 rfl (lv_at hl 3 rfl) ?_
  refine lv_iload_n hx hb dL_law_366 rfl (lv_at hl 0 rfl) ?_
  refine lv_iconst (v := (2 : Int32)) hx hb dL_law_367 (by decide) ?_
  refine lv_iadd hx hb dL_law_368 ?_
  refine va_sld hx hb hX hbl hbA hSt.2.2.2.2 (lw_in 2 rfl (by omega) hL) dL_law_369 ?_
  refine lw_xi (va_runV (As := [.int (xs (nI (6 * t) + 1).toNatClampNeg), .int (xs (nI (6 * t) + 2).toNatClampNeg)]) (rest := []) ⟨hx, hb, hml, hown, hts⟩ (CX9_sharpen l D cI cS cP ax (zA ax 41) n σx σx' r (xs (nI (6 * t) + 1).toNatClampNeg) (xs (nI (6 * t) + 2).toNatClampNeg) f1) (cwV 2 hts gL_law_X9_sharpen rfl rfl rfl (by decide +kernel) ⟨Nat.le_of_ble_eq_true rfl, Nat.le_of_ble_eq_true rfl⟩) (z_preV (o := 0) hN hK hSt.1 hSt.2.1 (by decide) (zx_8 rfl) rfl) rfl rfl hl.1 rfl (lv_room (Nat.le_of_ble_eq_true rfl)) dL_law_370 ⟨hcs.1, hcs.2⟩) hA hSt (fun H locs hSt => ?_)
  refine lv_aload_n hx hb dL_law_373 rfl (lv_at hl 1 rfl) ?_
  refine lv_aload_n hx hb dL_law_374 rfl (lv_at hl 3 rfl) ?_
  refine lv_iload_n hx hb dL_law_375 rfl (lv_at hl 0 rfl) ?_
  refine lv_iconst (v := (1 : Int32)) hx hb dL_law_376 (by decide) ?_
  refine lv_iadd hx hb dL_law_377 ?_
  refine va_sld hx hb hX hbl hbA hSt.2.2.2.2 (lw_in 1 rfl (by omega) hL) dL_law_378 ?_
  refine lv_aload_n hx hb dL_law_379 rfl (lv_at hl 3 rfl) ?_
  refine lv_iload_n hx hb dL_law_380 rfl (lv_at hl 0 rfl) ?_
  refine lv_iconst (v := (2 : Int32)) hx hb dL_law_381 (by decide) ?_
  refine lv_iadd hx hb dL_law_382 ?_
  refine va_sld hx hb hX hbl hbA hSt.2.2.2.2 (lw_in 2 rfl (by omega) hL) dL_law_383 ?_
  refine lw_mi (va_runV (As := [.int (xs (nI (6 * t) + 1).toNatClampNeg), .int (xs (nI (6 * t) + 2).toNatClampNeg)]) (rest := [.int r]) ⟨hx, hb, hml, hown, hts⟩ (CX10_sharpen l D cI cS cP am (zA am 20) n σm σm' r (xs (nI (6 * t) + 1).toNatClampNeg) (xs (nI (6 * t) + 2).toNatClampNeg) f2) (cwV 2 hts gL_law_X10_sharpen rfl rfl rfl (by decide +kernel) ⟨Nat.le_of_ble_eq_true rfl, Nat.le_of_ble_eq_true rfl⟩) (z_preV (o := 0) hN hK hSt.2.2.1 hSt.2.2.2.1 (by decide) zm_0 rfl) rfl rfl hl.1 rfl (lv_room (Nat.le_of_ble_eq_true rfl)) dL_law_384 ⟨hcs.1, hcs.2⟩) hA hSt (fun H locs hSt => ?_)
  exact lv_icmp_eq (tgt := 1248) hx hb dL_law_387 (by decide) (fun _ => kk H locs σx' σm' hSt f3) (fun z => absurd rfl z)
set_option maxHeartbeats 8000000 in
set_option maxRecDepth 100000 in
theorem law_c6 {p : Program} {l : Launch} {e : Env} {s : State} {m : MethodId} {below : List Frame} {meth : Method} {c : Code} {b L t : Nat} {xs : Nat → Int32} {D : va_G} {cI cS cP : ClassId} {ax am : Nat → Nat} {H : Heap} {locs : List Loc} {cells slots : Nat} {ls : Array Slot} {σx σm : zMem} {Q : State → Prop} (hC : lw_Ctx p s m c b L xs D cI cS cP ax am) (hL : L ≤ 3072) (ht : 6 * t + 6 ≤ L) (hcs : cells ≤ 600000 ∧ slots ≤ 7302250) (hl : lv_has ls 4 [(3, .int (nI (6 * t))), (2, .ref (am 0)), (1, .ref (ax 0)), (0, .ref b)]) (hSt : lw_St s D cI cS cP ax am H locs σx σm) (hR : zR t σx σm) (kk : ∀ (H : Heap) (locs : List Loc) (σx σm : zMem), lw_St s D cI cS cP ax am H locs σx σm → zR (t + 1) σx σm → W p l e room_1 s m #[Value.ref b] below meth c H locs cells slots Q (F0 m 1248 ls [])) : W p l e room_1 s m #[Value.ref b] below meth c H locs cells slots Q (F0 m 392 ls []) := by
  obtain ⟨hx, hb, hml, hown, hts, hX, hbl, hK, hN, hA⟩ := hC
  have hbA : ¬ (fun q : Nat => s.heap.size ≤ q) b := Nat.not_le.mpr hbl
  obtain ⟨n, hn⟩ : ∃ n : Nat, 6000 < n := ⟨6001, Nat.lt_succ_self _⟩
  obtain ⟨r, σx', σm', f1, f2, f3⟩ := brings_e n t (xs (nI (6 * t) + 1).toNatClampNeg) (xs (nI (6 * t) + 2).toNatClampNeg) σx σm hR
  have f1 : FX9_brings n σx (xs (nI (6 * t) + 1).toNatClampNeg) (xs (nI (6 * t) + 2).toNatClampNeg) = some (r, σx') := f1
  have f2 : FX10_brings n σm (xs (nI (6 * t) + 1).toNatClampNeg) (xs (nI (6 * t) + 2).toNatClampNeg) = some (r, σm') := f2
  refine lv_aload_n hx hb dL_law_392 rfl (lv_at hl 2 rfl) ?_
  refine lv_aload_n hx hb dL_law_393 rfl (lv_at hl 3 rfl) ?_
  refine lv_iload_n hx hb dL_law_394 rfl (lv_at hl 0 rfl) ?_
  refine lv_iconst (v := (1 : Int32)) hx hb dL_law_395 (by decide) ?_
  refine lv_iadd hx hb dL_law_396 ?_
  refine va_sld hx hb hX hbl hbA hSt.2.2.2.2 (lw_in 1 rfl (by omega) hL) dL_law_397 ?_
  refine lv_aload_n hx hb dL_law_398 rfl (lv_at hl 3 rfl) ?_
  refine lv_iload_n hx hb dL_law_399 rfl (lv_at hl 0 rfl) ?_
  refine lv_iconst (v := (2 : Int32)) hx hb dL_law_400 (by decide) ?_
  refine lv_iadd hx hb dL_law_401 ?_
  refine va_sld hx hb hX hbl hbA hSt.2.2.2.2 (lw_in 2 rfl (by omega) hL) dL_law_402 ?_
  refine lw_xi (va_runV (As := [.int (xs (nI (6 * t) + 1).toNatClampNeg), .int (xs (nI (6 * t) + 2).toNatClampNeg)]) (rest := []) ⟨hx, hb, hml, hown, hts⟩ (CX9_brings l D cI cS cP ax (zA ax 41) n σx σx' r (xs (nI (6 * t) + 1).toNatClampNeg) (xs (nI (6 * t) + 2).toNatClampNeg) f1) (cwV 2 hts gL_law_X9_brings rfl rfl rfl (by decide +kernel) ⟨Nat.le_of_ble_eq_true rfl, Nat.le_of_ble_eq_true rfl⟩) (z_preV (o := 0) hN hK hSt.1 hSt.2.1 (by decide) (zx_8 rfl) rfl) rfl rfl hl.1 rfl (lv_room (Nat.le_of_ble_eq_true rfl)) dL_law_403 ⟨hcs.1, hcs.2⟩) hA hSt (fun H locs hSt => ?_)
  refine lv_aload_n hx hb dL_law_406 rfl (lv_at hl 1 rfl) ?_
  refine lv_aload_n hx hb dL_law_407 rfl (lv_at hl 3 rfl) ?_
  refine lv_iload_n hx hb dL_law_408 rfl (lv_at hl 0 rfl) ?_
  refine lv_iconst (v := (1 : Int32)) hx hb dL_law_409 (by decide) ?_
  refine lv_iadd hx hb dL_law_410 ?_
  refine va_sld hx hb hX hbl hbA hSt.2.2.2.2 (lw_in 1 rfl (by omega) hL) dL_law_411 ?_
  refine lv_aload_n hx hb dL_law_412 rfl (lv_at hl 3 rfl) ?_
  refine lv_iload_n hx hb dL_law_413 rfl (lv_at hl 0 rfl) ?_
  refine lv_iconst (v := (2 : Int32)) hx hb dL_law_414 (by decide) ?_
  refine lv_iadd hx hb dL_law_415 ?_
  refine va_sld hx hb hX hbl hbA hSt.2.2.2.2 (lw_in 2 rfl (by omega) hL) dL_law_416 ?_
  refine lw_mi (va_runV (As := [.int (xs (nI (6 * t) + 1).toNatClampNeg), .int (xs (nI (6 * t) + 2).toNatClampNeg)]) (rest := [.int r]) ⟨hx, hb, hml, hown, hts⟩ (CX10_brings l D cI cS cP am (zA am 20) n σm σm' r (xs (nI (6 * t) + 1).toNatClampNeg) (xs (nI (6 * t) + 2).toNatClampNeg) f2) (cwV 2 hts gL_law_X10_brings rfl rfl rfl (by decide +kernel) ⟨Nat.le_of_ble_eq_true rfl, Nat.le_of_ble_eq_true rfl⟩) (z_preV (o := 0) hN hK hSt.2.2.1 hSt.2.2.2.1 (by decide) zm_0 rfl) rfl rfl hl.1 rfl (lv_room (Nat.le_of_ble_eq_true rfl)) dL_law_417 ⟨hcs.1, hcs.2⟩) hA hSt (fun H locs hSt => ?_)
  exact lv_icmp_eq (tgt := 1248) hx hb dL_law_420 (by decide) (fun _ => kk H locs σx' σm' hSt f3) (fun z => absurd rfl z)
set_option maxHeartbeats 8000000 in
set_option maxRecDepth 100000 in
theorem law_c7 {p : Program} {l : Launch} {e : Env} {s : State} {m : MethodId} {below : List Frame} {meth : Method} {c : Code} {b L t : Nat} {xs : Nat → Int32} {D : va_G} {cI cS cP : ClassId} {ax am : Nat → Nat} {H : Heap} {locs : List Loc} {cells slots : Nat} {ls : Array Slot} {σx σm : zMem} {Q : State → Prop} (hC : lw_Ctx p s m c b L xs D cI cS cP ax am) (hL : L ≤ 3072) (ht : 6 * t + 6 ≤ L) (hcs : cells ≤ 600000 ∧ slots ≤ 7302250) (hl : lv_has ls 4 [(3, .int (nI (6 * t))), (2, .ref (am 0)), (1, .ref (ax 0)), (0, .ref b)]) (hSt : lw_St s D cI cS cP ax am H locs σx σm) (hR : zR t σx σm) (kk : ∀ (H : Heap) (locs : List Loc) (σx σm : zMem), lw_St s D cI cS cP ax am H locs σx σm → zR (t + 1) σx σm → W p l e room_1 s m #[Value.ref b] below meth c H locs cells slots Q (F0 m 1248 ls [])) : W p l e room_1 s m #[Value.ref b] below meth c H locs cells slots Q (F0 m 425 ls []) := by
  obtain ⟨hx, hb, hml, hown, hts, hX, hbl, hK, hN, hA⟩ := hC
  have hbA : ¬ (fun q : Nat => s.heap.size ≤ q) b := Nat.not_le.mpr hbl
  obtain ⟨n, hn⟩ : ∃ n : Nat, 6000 < n := ⟨6001, Nat.lt_succ_self _⟩
  obtain ⟨r, σx', σm', f1, f2, f3⟩ := question_e n t (by omega) (by omega) (xs (nI (6 * t) + 1).toNatClampNeg) σx σm hR
  have f1 : FX9_question n σx (xs (nI (6 * t) + 1).toNatClampNeg) = some (r, σx') := f1
  have f2 : FX10_question n σm (xs (nI (6 * t) + 1).toNatClampNeg) = some (r, σm') := f2
  refine lv_aload_n hx hb dL_law_425 rfl (lv_at hl 2 rfl) ?_
  refine lv_aload_n hx hb dL_law_426 rfl (lv_at hl 3 rfl) ?_
  refine lv_iload_n hx hb dL_law_427 rfl (lv_at hl 0 rfl) ?_
  refine lv_iconst (v := (1 : Int32)) hx hb dL_law_428 (by decide) ?_
  refine lv_iadd hx hb dL_law_429 ?_
  refine va_sld hx hb hX hbl hbA hSt.2.2.2.2 (lw_in 1 rfl (by omega) hL) dL_law_430 ?_
  refine lw_xi (va_runV (As := [.int (xs (nI (6 * t) + 1).toNatClampNeg)]) (rest := []) ⟨hx, hb, hml, hown, hts⟩ (CX9_question l D cI cS cP ax (zA ax 41) n σx σx' r (xs (nI (6 * t) + 1).toNatClampNeg) f1) (cwV 1 hts gL_law_X9_question rfl rfl rfl (by decide +kernel) ⟨Nat.le_of_ble_eq_true rfl, Nat.le_of_ble_eq_true rfl⟩) (z_preV (o := 0) hN hK hSt.1 hSt.2.1 (by decide) (zx_8 rfl) rfl) rfl rfl hl.1 rfl (lv_room (Nat.le_of_ble_eq_true rfl)) dL_law_431 ⟨hcs.1, hcs.2⟩) hA hSt (fun H locs hSt => ?_)
  refine lv_aload_n hx hb dL_law_434 rfl (lv_at hl 1 rfl) ?_
  refine lv_aload_n hx hb dL_law_435 rfl (lv_at hl 3 rfl) ?_
  refine lv_iload_n hx hb dL_law_436 rfl (lv_at hl 0 rfl) ?_
  refine lv_iconst (v := (1 : Int32)) hx hb dL_law_437 (by decide) ?_
  refine lv_iadd hx hb dL_law_438 ?_
  refine va_sld hx hb hX hbl hbA hSt.2.2.2.2 (lw_in 1 rfl (by omega) hL) dL_law_439 ?_
  refine lw_mi (va_runV (As := [.int (xs (nI (6 * t) + 1).toNatClampNeg)]) (rest := [.int r]) ⟨hx, hb, hml, hown, hts⟩ (CX10_question l D cI cS cP am (zA am 20) n σm σm' r (xs (nI (6 * t) + 1).toNatClampNeg) f2) (cwV 1 hts gL_law_X10_question rfl rfl rfl (by decide +kernel) ⟨Nat.le_of_ble_eq_true rfl, Nat.le_of_ble_eq_true rfl⟩) (z_preV (o := 0) hN hK hSt.2.2.1 hSt.2.2.2.1 (by decide) zm_0 rfl) rfl rfl hl.1 rfl (lv_room (Nat.le_of_ble_eq_true rfl)) dL_law_440 ⟨hcs.1, hcs.2⟩) hA hSt (fun H locs hSt => ?_)
  exact lv_icmp_eq (tgt := 1248) hx hb dL_law_443 (by decide) (fun _ => kk H locs σx' σm' hSt f3) (fun z => absurd rfl z)
set_option maxHeartbeats 8000000 in
set_option maxRecDepth 100000 in
theorem law_c8 {p : Program} {l : Launch} {e : Env} {s : State} {m : MethodId} {below : List Frame} {meth : Method} {c : Code} {b L t : Nat} {xs : Nat → Int32} {D : va_G} {cI cS cP : ClassId} {ax am : Nat → Nat} {H : Heap} {locs : List Loc} {cells slots : Nat} {ls : Array Slot} {σx σm : zMem} {Q : State → Prop} (hC : lw_Ctx p s m c b L xs D cI cS cP ax am) (hL : L ≤ 3072) (ht : 6 * t + 6 ≤ L) (hcs : cells ≤ 600000 ∧ slots ≤ 7302250) (hl : lv_has ls 4 [(3, .int (nI (6 * t))), (2, .ref (am 0)), (1, .ref (ax 0)), (0, .ref b)]) (hSt : lw_St s D cI cS cP ax am H locs σx σm) (hR : zR t σx σm) (kk : ∀ (H : Heap) (locs : List Loc) (σx σm : zMem), lw_St s D cI cS cP ax am H locs σx σm → zR (t + 1) σx σm → W p l e room_1 s m #[Value.ref b] below meth c H locs cells slots Q (F0 m 1248 ls [])) : W p l e room_1 s m #[Value.ref b] below meth c H locs cells slots Q (F0 m 448 ls []) := by
  obtain ⟨hx, hb, hml, hown, hts, hX, hbl, hK, hN, hA⟩ := hC
  have hbA : ¬ (fun q : Nat => s.heap.size ≤ q) b := Nat.not_le.mpr hbl
  obtain ⟨n, hn⟩ : ∃ n : Nat, 6000 < n := ⟨6001, Nat.lt_succ_self _⟩
  obtain ⟨r, σx', σm', f1, f2, f3⟩ := feint_e n t (by omega) (by omega) (xs (nI (6 * t) + 1).toNatClampNeg) σx σm hR
  have f1 : FX9_feint n σx (xs (nI (6 * t) + 1).toNatClampNeg) = some (r, σx') := f1
  have f2 : FX10_feint n σm (xs (nI (6 * t) + 1).toNatClampNeg) = some (r, σm') := f2
  refine lv_aload_n hx hb dL_law_448 rfl (lv_at hl 2 rfl) ?_
  refine lv_aload_n hx hb dL_law_449 rfl (lv_at hl 3 rfl) ?_
  refine lv_iload_n hx hb dL_law_450 rfl (lv_at hl 0 rfl) ?_
  refine lv_iconst (v := (1 : Int32)) hx hb dL_law_451 (by decide) ?_
  refine lv_iadd hx hb dL_law_452 ?_
  refine va_sld hx hb hX hbl hbA hSt.2.2.2.2 (lw_in 1 rfl (by omega) hL) dL_law_453 ?_
  refine lw_xi (va_runV (As := [.int (xs (nI (6 * t) + 1).toNatClampNeg)]) (rest := []) ⟨hx, hb, hml, hown, hts⟩ (CX9_feint l D cI cS cP ax (zA ax 41) n σx σx' r (xs (nI (6 * t) + 1).toNatClampNeg) f1) (cwV 1 hts gL_law_X9_feint rfl rfl rfl (by decide +kernel) ⟨Nat.le_of_ble_eq_true rfl, Nat.le_of_ble_eq_true rfl⟩) (z_preV (o := 0) hN hK hSt.1 hSt.2.1 (by decide) (zx_8 rfl) rfl) rfl rfl hl.1 rfl (lv_room (Nat.le_of_ble_eq_true rfl)) dL_law_454 ⟨hcs.1, hcs.2⟩) hA hSt (fun H locs hSt => ?_)
  refine lv_aload_n hx hb dL_law_457 rfl (lv_at hl 1 rfl) ?_
  refine lv_aload_n hx hb dL_law_458 rfl (lv_at hl 3 rfl) ?_
  refine lv_iload_n hx hb dL_law_459 rfl (lv_at hl 0 rfl) ?_
  refine lv_iconst (v := (1 : Int32)) hx hb dL_law_460 (by decide) ?_
  refine lv_iadd hx hb dL_law_461 ?_
  refine va_sld hx hb hX hbl hbA hSt.2.2.2.2 (lw_in 1 rfl (by omega) hL) dL_law_462 ?_
  refine lw_mi (va_runV (As := [.int (xs (nI (6 * t) + 1).toNatClampNeg)]) (rest := [.int r]) ⟨hx, hb, hml, hown, hts⟩ (CX10_feint l D cI cS cP am (zA am 20) n σm σm' r (xs (nI (6 * t) + 1).toNatClampNeg) f2) (cwV 1 hts gL_law_X10_feint rfl rfl rfl (by decide +kernel) ⟨Nat.le_of_ble_eq_true rfl, Nat.le_of_ble_eq_true rfl⟩) (z_preV (o := 0) hN hK hSt.2.2.1 hSt.2.2.2.1 (by decide) zm_0 rfl) rfl rfl hl.1 rfl (lv_room (Nat.le_of_ble_eq_true rfl)) dL_law_463 ⟨hcs.1, hcs.2⟩) hA hSt (fun H locs hSt => ?_)
  exact lv_icmp_eq (tgt := 1248) hx hb dL_law_466 (by decide) (fun _ => kk H locs σx' σm' hSt f3) (fun z => absurd rfl z)
set_option maxHeartbeats 8000000 in
set_option maxRecDepth 100000 in
theorem law_c9 {p : Program} {l : Launch} {e : Env} {s : State} {m : MethodId} {below : List Frame} {meth : Method} {c : Code} {b L t : Nat} {xs : Nat → Int32} {D : va_G} {cI cS cP : ClassId} {ax am : Nat → Nat} {H : Heap} {locs : List Loc} {cells slots : Nat} {ls : Array Slot} {σx σm : zMem} {Q : State → Prop} (hC : lw_Ctx p s m c b L xs D cI cS cP ax am) (hL : L ≤ 3072) (ht : 6 * t + 6 ≤ L) (hcs : cells ≤ 600000 ∧ slots ≤ 7302250) (hl : lv_has ls 4 [(3, .int (nI (6 * t))), (2, .ref (am 0)), (1, .ref (ax 0)), (0, .ref b)]) (hSt : lw_St s D cI cS cP ax am H locs σx σm) (hR : zR t σx σm) (kk : ∀ (H : Heap) (locs : List Loc) (σx σm : zMem), lw_St s D cI cS cP ax am H locs σx σm → zR (t + 1) σx σm → W p l e room_1 s m #[Value.ref b] below meth c H locs cells slots Q (F0 m 1248 ls [])) : W p l e room_1 s m #[Value.ref b] below meth c H locs cells slots Q (F0 m 471 ls []) := by
  obtain ⟨hx, hb, hml, hown, hts, hX, hbl, hK, hN, hA⟩ := hC
  have hbA : ¬ (fun q : Nat => s.heap.size ≤ q) b := Nat.not_le.mpr hbl
  obtain ⟨n, hn⟩ : ∃ n : Nat, 6000 < n := ⟨6001, Nat.lt_succ_self _⟩
  obtain ⟨r, σx', σm', f1, f2, f3⟩ := year_e n t (by omega) (by omega) (xs (nI (6 * t) + 1).toNatClampNeg) (xs (nI (6 * t) + 2).toNatClampNeg) (xs (nI (6 * t) + 3).toNatClampNeg) (xs (nI (6 * t) + 4).toNatClampNeg) (xs (nI (6 * t) + 5).toNatClampNeg) σx σm hR
  have f1 : FX9_year n σx (xs (nI (6 * t) + 1).toNatClampNeg) (xs (nI (6 * t) + 2).toNatClampNeg) (xs (nI (6 * t) + 3).toNatClampNeg) (xs (nI (6 * t) + 4).toNatClampNeg) (xs (nI (6 * t) + 5).toNatClampNeg) = some (r, σx') := f1
  have f2 : FX10_year n σm (xs (nI (6 * t) + 1).toNatClampNeg) (xs (nI (6 * t) + 2).toNatClampNeg) (xs (nI (6 * t) + 3).toNatClampNeg) (xs (nI (6 * t) + 4).toNatClampNeg) (xs (nI (6 * t) + 5).toNatClampNeg) = some (r, σm') := f2
  refine lv_aload_n hx hb dL_law_471 rfl (lv_at hl 2 rfl) ?_
  refine lv_aload_n hx hb dL_law_472 rfl (lv_at hl 3 rfl) ?_
  refine lv_iload_n hx hb dL_law_473 rfl (lv_at hl 0 rfl) ?_
  refine lv_iconst (v := (1 : Int32)) hx hb dL_law_474 (by decide) ?_
  refine lv_iadd hx hb dL_law_475 ?_
  refine va_sld hx hb hX hbl hbA hSt.2.2.2.2 (lw_in 1 rfl (by omega) hL) dL_law_476 ?_
  refine lv_aload_n hx hb dL_law_477 rfl (lv_at hl 3 rfl) ?_
  refine lv_iload_n hx hb dL_law_478 rfl (lv_at hl 0 rfl) ?_
  refine lv_iconst (v := (2 : Int32)) hx hb dL_law_479 (by decide) ?_
  refine lv_iadd hx hb dL_law_480 ?_
  refine va_sld hx hb hX hbl hbA hSt.2.2.2.2 (lw_in 2 rfl (by omega) hL) dL_law_481 ?_
  refine lv_aload_n hx hb dL_law_482 rfl (lv_at hl 3 rfl) ?_
  refine lv_iload_n hx hb dL_law_483 rfl (lv_at hl 0 rfl) ?_
  refine lv_iconst (v := (3 : Int32)) hx hb dL_law_484 (by decide) ?_
  refine lv_iadd hx hb dL_law_485 ?_
  refine va_sld hx hb hX hbl hbA hSt.2.2.2.2 (lw_in 3 rfl (by omega) hL) dL_law_486 ?_
  refine lv_aload_n hx hb dL_law_487 rfl (lv_at hl 3 rfl) ?_
  refine lv_iload_n hx hb dL_law_488 rfl (lv_at hl 0 rfl) ?_
  refine lv_iconst (v := (4 : Int32)) hx hb dL_law_489 (by decide) ?_
  refine lv_iadd hx hb dL_law_490 ?_
  refine va_sld hx hb hX hbl hbA hSt.2.2.2.2 (lw_in 4 rfl (by omega) hL) dL_law_491 ?_
  refine lv_aload_n hx hb dL_law_492 rfl (lv_at hl 3 rfl) ?_
  refine lv_iload_n hx hb dL_law_493 rfl (lv_at hl 0 rfl) ?_
  refine lv_iconst (v := (5 : Int32)) hx hb dL_law_494 (by decide) ?_
  refine lv_iadd hx hb dL_law_495 ?_
  refine va_sld hx hb hX hbl hbA hSt.2.2.2.2 (lw_in 5 rfl (by omega) hL) dL_law_496 ?_
  refine lw_xi (va_runV (As := [.int (xs (nI (6 * t) + 1).toNatClampNeg), .int (xs (nI (6 * t) + 2).toNatClampNeg), .int (xs (nI (6 * t) + 3).toNatClampNeg), .int (xs (nI (6 * t) + 4).toNatClampNeg), .int (xs (nI (6 * t) + 5).toNatClampNeg)]) (rest := []) ⟨hx, hb, hml, hown, hts⟩ (CX9_year l D cI cS cP ax (zA ax 41) n σx σx' r (xs (nI (6 * t) + 1).toNatClampNeg) (xs (nI (6 * t) + 2).toNatClampNeg) (xs (nI (6 * t) + 3).toNatClampNeg) (xs (nI (6 * t) + 4).toNatClampNeg) (xs (nI (6 * t) + 5).toNatClampNeg) f1) (cwV 5 hts gL_law_X9_year rfl rfl rfl (by decide +kernel) ⟨Nat.le_of_ble_eq_true rfl, Nat.le_of_ble_eq_true rfl⟩) (z_preV (o := 0) hN hK hSt.1 hSt.2.1 (by decide) (zx_8 rfl) rfl) rfl rfl hl.1 rfl (lv_room (Nat.le_of_ble_eq_true rfl)) dL_law_497 ⟨hcs.1, hcs.2⟩) hA hSt (fun H locs hSt => ?_)
  refine lv_aload_n hx hb dL_law_500 rfl (lv_at hl 1 rfl) ?_
  refine lv_aload_n hx hb dL_law_501 rfl (lv_at hl 3 rfl) ?_
  refine lv_iload_n hx hb dL_law_502 rfl (lv_at hl 0 rfl) ?_
  refine lv_iconst (v := (1 : Int32)) hx hb dL_law_503 (by decide) ?_
  refine lv_iadd hx hb dL_law_504 ?_
  refine va_sld hx hb hX hbl hbA hSt.2.2.2.2 (lw_in 1 rfl (by omega) hL) dL_law_505 ?_
  refine lv_aload_n hx hb dL_law_506 rfl (lv_at hl 3 rfl) ?_
  refine lv_iload_n hx hb dL_law_507 rfl (lv_at hl 0 rfl) ?_
  refine lv_iconst (v := (2 : Int32)) hx hb dL_law_508 (by decide) ?_
  refine lv_iadd hx hb dL_law_509 ?_
  refine va_sld hx hb hX hbl hbA hSt.2.2.2.2 (lw_in 2 rfl (by omega) hL) dL_law_510 ?_
  refine lv_aload_n hx hb dL_law_511 rfl (lv_at hl 3 rfl) ?_
  refine lv_iload_n hx hb dL_law_512 rfl (lv_at hl 0 rfl) ?_
  refine lv_iconst (v := (3 : Int32)) hx hb dL_law_513 (by decide) ?_
  refine lv_iadd hx hb dL_law_514 ?_
  refine va_sld hx hb hX hbl hbA hSt.2.2.2.2 (lw_in 3 rfl (by omega) hL) dL_law_515 ?_
  refine lv_aload_n hx hb dL_law_516 rfl (lv_at hl 3 rfl) ?_
  refine lv_iload_n hx hb dL_law_517 rfl (lv_at hl 0 rfl) ?_
  refine lv_iconst (v := (4 : Int32)) hx hb dL_law_518 (by decide) ?_
  refine lv_iadd hx hb dL_law_519 ?_
  refine va_sld hx hb hX hbl hbA hSt.2.2.2.2 (lw_in 4 rfl (by omega) hL) dL_law_520 ?_
  refine lv_aload_n hx hb dL_law_521 rfl (lv_at hl 3 rfl) ?_
  refine lv_iload_n hx hb dL_law_522 rfl (lv_at hl 0 rfl) ?_
  refine lv_iconst (v := (5 : Int32)) hx hb dL_law_523 (by decide) ?_
  refine lv_iadd hx hb dL_law_524 ?_
  refine va_sld hx hb hX hbl hbA hSt.2.2.2.2 (lw_in 5 rfl (by omega) hL) dL_law_525 ?_
  refine lw_mi (va_runV (As := [.int (xs (nI (6 * t) + 1).toNatClampNeg), .int (xs (nI (6 * t) + 2).toNatClampNeg), .int (xs (nI (6 * t) + 3).toNatClampNeg), .int (xs (nI (6 * t) + 4).toNatClampNeg), .int (xs (nI (6 * t) + 5).toNatClampNeg)]) (rest := [.int r]) ⟨hx, hb, hml, hown, hts⟩ (CX10_year l D cI cS cP am (zA am 20) n σm σm' r (xs (nI (6 * t) + 1).toNatClampNeg) (xs (nI (6 * t) + 2).toNatClampNeg) (xs (nI (6 * t) + 3).toNatClampNeg) (xs (nI (6 * t) + 4).toNatClampNeg) (xs (nI (6 * t) + 5).toNatClampNeg) f2) (cwV 5 hts gL_law_X10_year rfl rfl rfl (by decide +kernel) ⟨Nat.le_of_ble_eq_true rfl, Nat.le_of_ble_eq_true rfl⟩) (z_preV (o := 0) hN hK hSt.2.2.1 hSt.2.2.2.1 (by decide) zm_0 rfl) rfl rfl hl.1 rfl (lv_room (Nat.le_of_ble_eq_true rfl)) dL_law_526 ⟨hcs.1, hcs.2⟩) hA hSt (fun H locs hSt => ?_)
  exact lv_icmp_eq (tgt := 1248) hx hb dL_law_529 (by decide) (fun _ => kk H locs σx' σm' hSt f3) (fun z => absurd rfl z)
set_option maxHeartbeats 8000000 in
set_option maxRecDepth 100000 in
theorem law_c10 {p : Program} {l : Launch} {e : Env} {s : State} {m : MethodId} {below : List Frame} {meth : Method} {c : Code} {b L t : Nat} {xs : Nat → Int32} {D : va_G} {cI cS cP : ClassId} {ax am : Nat → Nat} {H : Heap} {locs : List Loc} {cells slots : Nat} {ls : Array Slot} {σx σm : zMem} {Q : State → Prop} (hC : lw_Ctx p s m c b L xs D cI cS cP ax am) (hL : L ≤ 3072) (ht : 6 * t + 6 ≤ L) (hcs : cells ≤ 600000 ∧ slots ≤ 7302250) (hl : lv_has ls 4 [(3, .int (nI (6 * t))), (2, .ref (am 0)), (1, .ref (ax 0)), (0, .ref b)]) (hSt : lw_St s D cI cS cP ax am H locs σx σm) (hR : zR t σx σm) (kk : ∀ (H : Heap) (locs : List Loc) (σx σm : zMem), lw_St s D cI cS cP ax am H locs σx σm → zR (t + 1) σx σm → W p l e room_1 s m #[Value.ref b] below meth c H locs cells slots Q (F0 m 1248 ls [])) : W p l e room_1 s m #[Value.ref b] below meth c H locs cells slots Q (F0 m 534 ls []) := by
  obtain ⟨hx, hb, hml, hown, hts, hX, hbl, hK, hN, hA⟩ := hC
  have hbA : ¬ (fun q : Nat => s.heap.size ≤ q) b := Nat.not_le.mpr hbl
  obtain ⟨n, hn⟩ : ∃ n : Nat, 6000 < n := ⟨6001, Nat.lt_succ_self _⟩
  obtain ⟨r, σx', σm', f1, f2, f3⟩ := register_e n t (by omega) (by omega) (xs (nI (6 * t) + 1).toNatClampNeg) σx σm hR
  have f1 : FX9_register n σx (xs (nI (6 * t) + 1).toNatClampNeg) = some (r, σx') := f1
  have f2 : FX10_register n σm (xs (nI (6 * t) + 1).toNatClampNeg) = some (r, σm') := f2
  refine lv_aload_n hx hb dL_law_534 rfl (lv_at hl 2 rfl) ?_
  refine lv_aload_n hx hb dL_law_535 rfl (lv_at hl 3 rfl) ?_
  refine lv_iload_n hx hb dL_law_536 rfl (lv_at hl 0 rfl) ?_
  refine lv_iconst (v := (1 : Int32)) hx hb dL_law_537 (by decide) ?_
  refine lv_iadd hx hb dL_law_538 ?_
  refine va_sld hx hb hX hbl hbA hSt.2.2.2.2 (lw_in 1 rfl (by omega) hL) dL_law_539 ?_
  refine lw_xi (va_runV (As := [.int (xs (nI (6 * t) + 1).toNatClampNeg)]) (rest := []) ⟨hx, hb, hml, hown, hts⟩ (CX9_register l D cI cS cP ax (zA ax 41) n σx σx' r (xs (nI (6 * t) + 1).toNatClampNeg) f1) (cwV 1 hts gL_law_X9_register rfl rfl rfl (by decide +kernel) ⟨Nat.le_of_ble_eq_true rfl, Nat.le_of_ble_eq_true rfl⟩) (z_preV (o := 0) hN hK hSt.1 hSt.2.1 (by decide) (zx_8 rfl) rfl) rfl rfl hl.1 rfl (lv_room (Nat.le_of_ble_eq_true rfl)) dL_law_540 ⟨hcs.1, hcs.2⟩) hA hSt (fun H locs hSt => ?_)
  refine lv_aload_n hx hb dL_law_543 rfl (lv_at hl 1 rfl) ?_
  refine lv_aload_n hx hb dL_law_544 rfl (lv_at hl 3 rfl) ?_
  refine lv_iload_n hx hb dL_law_545 rfl (lv_at hl 0 rfl) ?_
  refine lv_iconst (v := (1 : Int32)) hx hb dL_law_546 (by decide) ?_
  refine lv_iadd hx hb dL_law_547 ?_
  refine va_sld hx hb hX hbl hbA hSt.2.2.2.2 (lw_in 1 rfl (by omega) hL) dL_law_548 ?_
  refine lw_mi (va_runV (As := [.int (xs (nI (6 * t) + 1).toNatClampNeg)]) (rest := [.int r]) ⟨hx, hb, hml, hown, hts⟩ (CX10_register l D cI cS cP am (zA am 20) n σm σm' r (xs (nI (6 * t) + 1).toNatClampNeg) f2) (cwV 1 hts gL_law_X10_register rfl rfl rfl (by decide +kernel) ⟨Nat.le_of_ble_eq_true rfl, Nat.le_of_ble_eq_true rfl⟩) (z_preV (o := 0) hN hK hSt.2.2.1 hSt.2.2.2.1 (by decide) zm_0 rfl) rfl rfl hl.1 rfl (lv_room (Nat.le_of_ble_eq_true rfl)) dL_law_549 ⟨hcs.1, hcs.2⟩) hA hSt (fun H locs hSt => ?_)
  exact lv_icmp_eq (tgt := 1248) hx hb dL_law_552 (by decide) (fun _ => kk H locs σx' σm' hSt f3) (fun z => absurd rfl z)
set_option maxHeartbeats 8000000 in
set_option maxRecDepth 100000 in
theorem law_c11 {p : Program} {l : Launch} {e : Env} {s : State} {m : MethodId} {below : List Frame} {meth : Method} {c : Code} {b L t : Nat} {xs : Nat → Int32} {D : va_G} {cI cS cP : ClassId} {ax am : Nat → Nat} {H : Heap} {locs : List Loc} {cells slots : Nat} {ls : Array Slot} {σx σm : zMem} {Q : State → Prop} (hC : lw_Ctx p s m c b L xs D cI cS cP ax am) (hL : L ≤ 3072) (ht : 6 * t + 6 ≤ L) (hcs : cells ≤ 600000 ∧ slots ≤ 7302250) (hl : lv_has ls 4 [(3, .int (nI (6 * t))), (2, .ref (am 0)), (1, .ref (ax 0)), (0, .ref b)]) (hSt : lw_St s D cI cS cP ax am H locs σx σm) (hR : zR t σx σm) (kk : ∀ (H : Heap) (locs : List Loc) (σx σm : zMem), lw_St s D cI cS cP ax am H locs σx σm → zR (t + 1) σx σm → W p l e room_1 s m #[Value.ref b] below meth c H locs cells slots Q (F0 m 1248 ls [])) : W p l e room_1 s m #[Value.ref b] below meth c H locs cells slots Q (F0 m 557 ls []) := by
  obtain ⟨hx, hb, hml, hown, hts, hX, hbl, hK, hN, hA⟩ := hC
  have hbA : ¬ (fun q : Nat => s.heap.size ≤ q) b := Nat.not_le.mpr hbl
  obtain ⟨n, hn⟩ : ∃ n : Nat, 6000 < n := ⟨6001, Nat.lt_succ_self _⟩
  obtain ⟨r, σx', σm', f1, f2, f3⟩ := turn_e n t (by omega) (by omega) (xs (nI (6 * t) + 1).toNatClampNeg) σx σm hR
  have f1 : FX9_turn n σx (xs (nI (6 * t) + 1).toNatClampNeg) = some (r, σx') := f1
  have f2 : FX10_turn n σm (xs (nI (6 * t) + 1).toNatClampNeg) = some (r, σm') := f2
  refine lv_aload_n hx hb dL_law_557 rfl (lv_at hl 2 rfl) ?_
  refine lv_aload_n hx hb dL_law_558 rfl (lv_at hl 3 rfl) ?_
  refine lv_iload_n hx hb dL_law_559 rfl (lv_at hl 0 rfl) ?_
  refine lv_iconst (v := (1 : Int32)) hx hb dL_law_560 (by decide) ?_
  refine lv_iadd hx hb dL_law_561 ?_
  refine va_sld hx hb hX hbl hbA hSt.2.2.2.2 (lw_in 1 rfl (by omega) hL) dL_law_562 ?_
  refine lw_xi (va_runV (As := [.int (xs (nI (6 * t) + 1).toNatClampNeg)]) (rest := []) ⟨hx, hb, hml, hown, hts⟩ (CX9_turn l D cI cS cP ax (zA ax 41) n σx σx' r (xs (nI (6 * t) + 1).toNatClampNeg) f1) (cwV 1 hts gL_law_X9_turn rfl rfl rfl (by decide +kernel) ⟨Nat.le_of_ble_eq_true rfl, Nat.le_of_ble_eq_true rfl⟩) (z_preV (o := 0) hN hK hSt.1 hSt.2.1 (by decide) (zx_8 rfl) rfl) rfl rfl hl.1 rfl (lv_room (Nat.le_of_ble_eq_true rfl)) dL_law_563 ⟨hcs.1, hcs.2⟩) hA hSt (fun H locs hSt => ?_)
  refine lv_aload_n hx hb dL_law_566 rfl (lv_at hl 1 rfl) ?_
  refine lv_aload_n hx hb dL_law_567 rfl (lv_at hl 3 rfl) ?_
  refine lv_iload_n hx hb dL_law_568 rfl (lv_at hl 0 rfl) ?_
  refine lv_iconst (v := (1 : Int32)) hx hb dL_law_569 (by decide) ?_
  refine lv_iadd hx hb dL_law_570 ?_
  refine va_sld hx hb hX hbl hbA hSt.2.2.2.2 (lw_in 1 rfl (by omega) hL) dL_law_571 ?_
  refine lw_mi (va_runV (As := [.int (xs (nI (6 * t) + 1).toNatClampNeg)]) (rest := [.int r]) ⟨hx, hb, hml, hown, hts⟩ (CX10_turn l D cI cS cP am (zA am 20) n σm σm' r (xs (nI (6 * t) + 1).toNatClampNeg) f2) (cwV 1 hts gL_law_X10_turn rfl rfl rfl (by decide +kernel) ⟨Nat.le_of_ble_eq_true rfl, Nat.le_of_ble_eq_true rfl⟩) (z_preV (o := 0) hN hK hSt.2.2.1 hSt.2.2.2.1 (by decide) zm_0 rfl) rfl rfl hl.1 rfl (lv_room (Nat.le_of_ble_eq_true rfl)) dL_law_572 ⟨hcs.1, hcs.2⟩) hA hSt (fun H locs hSt => ?_)
  exact lv_icmp_eq (tgt := 1248) hx hb dL_law_575 (by decide) (fun _ => kk H locs σx' σm' hSt f3) (fun z => absurd rfl z)
