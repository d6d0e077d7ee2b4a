/-! ===== the law: its start ===== -/
theorem tq_inX0 : Cond.instantiable RX0 1 ∈ lw_tbl := List.mem_append_right _ (List.mem_of_getElem? (i := 167) (by decide +kernel))
theorem tq_inX1 : Cond.instantiable RX1 2 ∈ lw_tbl := List.mem_append_right _ (List.mem_of_getElem? (i := 132) (by decide +kernel))
theorem tq_inX2 : Cond.instantiable RX2 4 ∈ lw_tbl := List.mem_append_right _ (List.mem_of_getElem? (i := 34) (by decide +kernel))
theorem tq_inX3 : Cond.instantiable RX3 5 ∈ lw_tbl := List.mem_append_right _ (List.mem_of_getElem? (i := 110) (by decide +kernel))
theorem tq_inX4 : Cond.instantiable RX4 3 ∈ lw_tbl := List.mem_append_right _ (List.mem_of_getElem? (i := 27) (by decide +kernel))
theorem tq_inX5 : Cond.instantiable RX5 4 ∈ lw_tbl := List.mem_append_right _ (List.mem_of_getElem? (i := 147) (by decide +kernel))
theorem tq_inX6 : Cond.instantiable RX6 4 ∈ lw_tbl := List.mem_append_right _ (List.mem_of_getElem? (i := 177) (by decide +kernel))
theorem tq_inX8 : Cond.instantiable RX8 4 ∈ lw_tbl := List.mem_append_right _ (List.mem_of_getElem? (i := 91) (by decide +kernel))
theorem tq_inX9 : Cond.instantiable RX9 11 ∈ lw_tbl := List.mem_append_right _ (List.mem_of_getElem? (i := 17) (by decide +kernel))
theorem tq_inX10 : Cond.instantiable RX10 32 ∈ lw_tbl := List.mem_append_right _ (List.mem_of_getElem? (i := 614) (by decide +kernel))
theorem tq_arr : Cond.arrayClass .int ∈ lw_tbl := List.mem_append_right _ (List.mem_of_getElem? (i := 70) (by decide +kernel))
theorem tq_aoS : Cond.arrayOver (.object "LeastAsked$Sheet") ∈ lw_tbl := List.mem_append_right _ (List.mem_of_getElem? (i := 25) (by decide +kernel))
theorem tq_aoP : Cond.arrayOver (.object "LeastAsked$Person") ∈ lw_tbl := List.mem_append_right _ (List.mem_of_getElem? (i := 33) (by decide +kernel))
theorem tq_nX4_25 : Cond.methodLinkNest RX4 25 yX2_init RX9 ∈ lw_tbl := List.mem_append_right _ (List.mem_of_getElem? (i := 35) (by decide +kernel))
theorem tq_nX9_29 : Cond.methodLinkNest RX9 29 yX8_init RX9 ∈ lw_tbl := List.mem_append_right _ (List.mem_of_getElem? (i := 92) (by decide +kernel))
theorem tq_nX9_36 : Cond.methodLinkNest RX9 36 yX3_init RX9 ∈ lw_tbl := List.mem_append_right _ (List.mem_of_getElem? (i := 111) (by decide +kernel))
theorem tq_nX9_43 : Cond.methodLinkNest RX9 43 yX1_init RX9 ∈ lw_tbl := List.mem_append_right _ (List.mem_of_getElem? (i := 133) (by decide +kernel))
theorem tq_nX9_50 : Cond.methodLinkNest RX9 50 yX5_init RX9 ∈ lw_tbl := List.mem_append_right _ (List.mem_of_getElem? (i := 148) (by decide +kernel))
theorem tq_nX9_57 : Cond.methodLinkNest RX9 57 yX0_init RX9 ∈ lw_tbl := List.mem_append_right _ (List.mem_of_getElem? (i := 168) (by decide +kernel))
theorem tq_nX9_72 : Cond.methodLinkNest RX9 72 yX6_init RX9 ∈ lw_tbl := List.mem_append_right _ (List.mem_of_getElem? (i := 178) (by decide +kernel))
theorem tq_nX4_45 : Cond.methodLinkNest RX4 45 yX9_isBelow RX9 ∈ lw_tbl := List.mem_append_right _ (List.mem_of_getElem? (i := 284) (by decide +kernel))
theorem tq_nX8_24 : Cond.methodLinkNest RX8 24 yX9_isBelow RX9 ∈ lw_tbl := List.mem_append_right _ (List.mem_of_getElem? (i := 352) (by decide +kernel))
theorem tq_clX9 : Cond.classLink RL 7 RX9 ∈ lw_tbl := List.mem_append_right _ (List.mem_of_getElem? (i := 16) (by decide +kernel))
theorem tq_iX9 : Cond.initialized RX9 ∈ lw_tbl := List.mem_append_right _ (List.mem_of_getElem? (i := 1) (by decide +kernel))
theorem tq_mlX9 : Cond.methodLink RL 9 yX9_init ∈ lw_tbl := List.mem_append_right _ (List.mem_of_getElem? (i := 18) (by decide +kernel))
theorem tq_imX9 : Cond.instanceMethod yX9_init ∈ lw_tbl := List.mem_append_right _ (List.mem_of_getElem? (i := 19) (by decide +kernel))
theorem tq_clX10 : Cond.classLink RL 10 RX10 ∈ lw_tbl := List.mem_append_right _ (List.mem_of_getElem? (i := 613) (by decide +kernel))
theorem tq_iX10 : Cond.initialized RX10 ∈ lw_tbl := List.mem_append_right _ (List.mem_of_getElem? (i := 10) (by decide +kernel))
theorem tq_mlX10 : Cond.methodLink RL 12 yX10_init ∈ lw_tbl := List.mem_append_right _ (List.mem_of_getElem? (i := 615) (by decide +kernel))
theorem tq_imX10 : Cond.instanceMethod yX10_init ∈ lw_tbl := List.mem_append_right _ (List.mem_of_getElem? (i := 616) (by decide +kernel))
theorem zR_00 : zR 0 zx0 zm0 := by
  refine ⟨fun _ _ => 0, 0, fun _ => 0, fun _ => 0, fun _ _ => 0, 0, fun _ _ => 0, 0, 0, 0, 0, ⟨⟨rfl, rfl, rfl, rfl, rfl⟩, ⟨fun p hp f hf => ?_, fun m hm => ?_⟩, fun k hk => ?_, rfl, fun q hq => absurd hq (Nat.not_lt_zero q)⟩, ⟨⟨rfl, rfl, rfl, rfl, rfl⟩, ⟨fun p hp f hf => ?_, fun m hm => ?_⟩, fun k hk => ?_, rfl, fun q hq => absurd hq (Nat.not_lt_zero q)⟩, ⟨⟨fun p hp => ⟨Nat.zero_lt_succ _, Nat.zero_le _, Nat.zero_lt_succ _, Nat.zero_lt_succ _⟩, fun m hm => Nat.zero_lt_succ _⟩, Or.inl rfl, fun k hk => ⟨Nat.zero_le _, Nat.zero_le _⟩, Nat.zero_le _, fun q hq => absurd hq (Nat.not_lt_zero q)⟩⟩
  · show zx0 (10 + 3 + p) f = nI 0
    unfold zx0
    rw [if_neg (by omega)]
    rfl
  · rfl
  · have e : ∀ o, o ≠ 28 → ∀ i, zx0 o i = 0 := fun o ho i => by unfold zx0; rw [if_neg ho]
    refine ⟨?_, fun z => absurd rfl z, ?_, fun i hi => ?_⟩
    · rw [e _ (by omega)]; rfl
    · rw [e _ (by omega)]; rfl
    · rw [e _ (by omega)]
  · show zm0 (5 + f) p = nI 0
    unfold zm0
    rw [if_neg (by omega)]
    rfl
  · rfl
  · refine ⟨?_, rfl, fun i hi => rfl⟩
    match k, hk with
    | 0, _ => decide
    | 1, _ => decide
    | 2, _ => decide
    | 3, _ => decide
theorem va_P_l {D : va_G} {cl : List vw_C} {w1 w2 : va_W} {H : Heap} (h : va_P D cl (w1 ++ w2) H) : va_P D cl w1 H := fun k q hk => h k q (by rw [List.getElem?_append_left (List.getElem?_eq_some_iff.mp hk).1]; exact hk)
theorem va_P_r {D : va_G} {cl : List vw_C} {w1 w2 : va_W} {H : Heap} (h : va_P D cl (w1 ++ w2) H) : va_P D cl w2 H := fun k q hk => h (w1.length + k) q (by rw [List.getElem?_append_right (by omega), Nat.add_sub_cancel_left]; exact hk)
set_option maxHeartbeats 8000000 in
set_option maxRecDepth 100000 in
/-- THE LAW, from its entry -/
theorem whole_start {p : Program} {e : Env} {s : State} {m : MethodId} {below : List Frame} {meth : Method} {c : Code} (l : Launch) (hflags : l.flags = flags0) {b L : Nat} {xs : Nat → Int32} (hL : L ≤ 3072) (C0 : lw_At p s m meth c b L xs) : W p l e room_1 s m #[Value.ref b] below meth c s.heap [] 0 0 (lw_Z below #[Value.ref b] s) (entryFrame m ([Value.ref b] : List Value).toArray 4) := by
  obtain ⟨hx, hb, hr, hml, hown, hts, hX, hbl, hlocks, hgv⟩ := id C0
  have hb : c.code = cL_law := hb
  have hown : s.vm.findClass RL = some m.cls := hown
  have htl : ∀ w ∈ wsL_law, w.before #[Value.ref b] s = true := fun w hw => hts w (wsL_law_in w hw)
  have hA : ∀ q : Nat, s.heap.size ≤ q → (fun q : Nat => s.heap.size ≤ q) q := fun _ h => h
  obtain ⟨c0, i0, hKn0⟩ := u_known (C := RX0) (T := TX0) (N := 1) (n := 1) hts inX0 (hts _ tq_inX0)
  obtain ⟨c1, i1, hKn1⟩ := u_known (C := RX1) (T := TX1) (N := 2) (n := 2) hts inX1 (hts _ tq_inX1)
  obtain ⟨c2, i2, hKn2⟩ := u_known (C := RX2) (T := TX2) (N := 4) (n := 4) hts inX2 (hts _ tq_inX2)
  obtain ⟨c3, i3, hKn3⟩ := u_known (C := RX3) (T := TX3) (N := 5) (n := 5) hts inX3 (hts _ tq_inX3)
  obtain ⟨c4, i4, hKn4⟩ := u_known (C := RX4) (T := TX4) (N := 3) (n := 3) hts inX4 (hts _ tq_inX4)
  obtain ⟨c5, i5, hKn5⟩ := u_known (C := RX5) (T := TX5) (N := 4) (n := 4) hts inX5 (hts _ tq_inX5)
  obtain ⟨c6, i6, hKn6⟩ := u_known (C := RX6) (T := TX6) (N := 4) (n := 4) hts inX6 (hts _ tq_inX6)
  obtain ⟨c7, i7, hKn7⟩ := u_known (C := RX8) (T := TX8) (N := 4) (n := 4) hts inX8 (hts _ tq_inX8)
  obtain ⟨c8, i8, hKn8⟩ := u_known (C := RX9) (T := TX9) (N := 11) (n := 11) hts inX9 (hts _ tq_inX9)
  obtain ⟨c9, i9, hKn9⟩ := u_known (C := RX10) (T := TX10) (N := 32) (n := 32) hts inX10 (hts _ tq_inX10)
  obtain ⟨D, hKc⟩ : ∃ D : va_G, ∀ (k : Nat) (q : vw_C), vwCl[k]? = some q → u_Kn s q.1 q.2.1 q.2.2 (D.1 k) (D.2 k) := by
    refine ⟨(fun k => [c0, c1, c2, c3, c4, c5, c6, c7, c8, c9].getD k c0, fun k => [i0, i1, i2, i3, i4, i5, i6, i7, i8, i9].getD k i0), ?_⟩
    intro k q hq
    match k, hq with
    | 0, hq => cases hq; exact hKn0
    | 1, hq => cases hq; exact hKn1
    | 2, hq => cases hq; exact hKn2
    | 3, hq => cases hq; exact hKn3
    | 4, hq => cases hq; exact hKn4
    | 5, hq => cases hq; exact hKn5
    | 6, hq => cases hq; exact hKn6
    | 7, hq => cases hq; exact hKn7
    | 8, hq => cases hq; exact hKn8
    | 9, hq => cases hq; exact hKn9
    | k + 10, hq => exact absurd hq (by rw [List.getElem?_eq_none (by show 10 ≤ k + 10; omega)]; exact fun z => by cases z)
  obtain ⟨cI, kI, coI, gI1, gI2, gI3⟩ := Cond.arrayClass_spec (hts _ tq_arr)
  obtain ⟨coS, cS, kS, gS1, -, gS2, gS3, gS4⟩ := Cond.arrayOver_spec (hts _ tq_aoS)
  obtain ⟨coP, cP, kP, gP1, -, gP2, gP3, gP4⟩ := Cond.arrayOver_spec (hts _ tq_aoP)
  have hK : va_K D vwCl (zty cI cS cP) s := by
    refine ⟨hKc, fun k q hq => ?_⟩
    match k, hq with
    | 0, hq => cases hq; exact ⟨fun n z => ⟨fun k h => (by cases h), kI, gI2, coI, gI3⟩, gI1⟩
    | 1, hq => cases hq; exact ⟨fun n z => ⟨fun k h => (by cases h), kS, gS2, coS, gS3⟩, kS, coS, gS2, gS3, gS1, gS4⟩
    | 2, hq => cases hq; exact ⟨fun n z => ⟨fun k h => (by cases h), kP, gP2, coP, gP3⟩, kP, coP, gP2, gP3, gP1, gP4⟩
    | k + 3, hq => cases hq
  have hN : zN s := ⟨va_Nw.of rfl (hts _ tq_nX4_45), va_Nw.of rfl (hts _ tq_nX8_24)⟩
  have hNI : zNI s := ⟨⟨va_AO.of (hts _ tq_aoS), va_AO.of (hts _ tq_aoP)⟩, va_Nw.of rfl (hts _ tq_nX4_25), va_Nw.of rfl (hts _ tq_nX9_29), va_Nw.of rfl (hts _ tq_nX9_36), va_Nw.of rfl (hts _ tq_nX9_43), va_Nw.of rfl (hts _ tq_nX9_50), va_Nw.of rfl (hts _ tq_nX9_57), va_Nw.of rfl (hts _ tq_nX9_72)⟩
  have hS : va_S (fun q : Nat => s.heap.size ≤ q) s.heap s.heap [] := va_S.rf
  have hP : va_P D vwCl [] s.heap := fun k q h => by simp at h
  have hD : va_D (fun q : Nat => s.heap.size ≤ q) [] := ⟨fun i j p q h => by simp at h, fun k q h => by simp at h⟩
  have hl := lv_entry ([.ref b]) (n := 4) (Nat.le_of_ble_eq_true rfl)
  rw [lg_entry_eq]
  generalize (lg_sl ([.ref b]) ++ List.replicate (4 - (lg_sl ([.ref b])).length) Slot.unset).toArray = ls at hl ⊢
  have hl : lv_has ls 4 [(0, .ref b)] := hl
  refine va_new (ci := 8) (fs := [.null, .null, .null, .null, .null, .null, .null, .null, .int 0, .int 0, .int 0]) (C := RX9) (T := TX9) (N := 11) hx hb hts inX9 tyX9 tyX9_ok hown (hts _ tq_clX9) (hts _ tq_inX9) (hts _ tq_iX9) hK hP hD hS hA rfl (by decide) (Nat.le_of_ble_eq_true rfl) (Nat.le_of_ble_eq_true rfl) dL_law_0 (fun q0 H hP hD hS => ?_)
  have hP : va_P D vwCl [(q0, .inr (8, [.null, .null, .null, .null, .null, .null, .null, .null, .int 0, .int 0, .int 0]))] H := hP
  have hD : va_D (fun q : Nat => s.heap.size ≤ q) [(q0, .inr (8, [.null, .null, .null, .null, .null, .null, .null, .null, .int 0, .int 0, .int 0]))] := hD
  refine W.widen (k := 1) (n := 11) (Nat.le_of_ble_eq_true rfl) (Nat.le_of_ble_eq_true rfl) ?_
  refine lv_dup hx hb dL_law_3 rfl ?_
  have hFc := va_free (wc := [(q0, .inr (8, [.null, .null, .null, .null, .null, .null, .null, .null, .int 0, .int 0, .int 0]))]) hD hS hA [0] rfl
  refine va_callv (va_runI (As := []) (rest := [.ref q0]) ⟨hx, hb, hml, hown, htl⟩ (KX9 l D cI cS cP q0 H.size) (cwI 0 htl gL_law_X9_init rfl rfl rfl (hts _ tq_iX9) (hts _ tq_mlX9) (hts _ tq_imX9) rfl (by decide +kernel) ⟨Nat.le_of_ble_eq_true rfl, Nat.le_of_ble_eq_true rfl⟩) (z_preC hNI hK hP hD) rfl rfl hl.1 rfl (lv_room (Nat.le_of_ble_eq_true rfl)) dL_law_4 ⟨Nat.le_of_ble_eq_true rfl, Nat.le_of_ble_eq_true rfl⟩) hS (fun q _ h => hFc q h) hFc (fun ax t H1 locs ht hvm hw hB hz1 hk1 hS => ?_)
  obtain ⟨hPx, hDx⟩ := hB
  rw [ht] at hPx
  have hDy : va_D (fun q : Nat => s.heap.size ≤ q) (zW (zx cI cS cP ax) 41 ax zx0) := hDx.weaken (fun _ q _ h => hFc q.1 h)
  clear hDx hP hD hFc hk1 hz1 ht hvm
  have hw : ax 0 = q0 := hw
  subst hw
  refine W.widen (k := 1000) (n := 10000) (Nat.le_of_ble_eq_true rfl) (Nat.le_of_ble_eq_true rfl) ?_
  refine lv_astore_n (lv' := [(1, .ref (ax 0)), (0, .ref b)]) hx hb dL_law_7 rfl hl (by decide) rfl (fun ls hl => ?_)
  refine va_new (ws := zW (zx cI cS cP ax) 41 ax zx0) (ci := 9) (fs := [.int 0, .int 0, .null, .null, .null, .int 0, .int 0, .int 0, .null, .null, .null, .null, .null, .int 0, .int 0, .null, .null, .null, .null, .int 0, .int 0, .int 0, .null, .null, .null, .null, .int 0, .int 0, .int 0, .null, .null, .null]) (C := RX10) (T := TX10) (N := 32) hx hb hts inX10 tyX10 tyX10_ok hown (hts _ tq_clX10) (hts _ tq_inX10) (hts _ tq_iX10) hK hPx hDy hS hA rfl (by decide) (Nat.le_of_ble_eq_true rfl) (Nat.le_of_ble_eq_true rfl) dL_law_8 (fun q1 H hP hD hS => ?_)
  have hPx := va_P_l hP
  have hPc := va_P_r hP
  have hq1 : s.heap.size ≤ q1 ∧ q1 < H.size := by
    have e1 : (zW (zx cI cS cP ax) 41 ax zx0 ++ [(q1, .inr (9, [.int 0, .int 0, .null, .null, .null, .int 0, .int 0, .int 0, .null, .null, .null, .null, .null, .int 0, .int 0, .null, .null, .null, .null, .int 0, .int 0, .int 0, .null, .null, .null, .null, .int 0, .int 0, .int 0, .null, .null, .null]))])[41]? = some (q1, .inr (9, [.int 0, .int 0, .null, .null, .null, .int 0, .int 0, .int 0, .null, .null, .null, .null, .null, .int 0, .int 0, .null, .null, .null, .null, .int 0, .int 0, .int 0, .null, .null, .null, .null, .int 0, .int 0, .int 0, .null, .null, .null])) := by
      rw [List.getElem?_append_right (by rw [zW_len]; exact Nat.le_refl _), zW_len]; rfl
    exact ⟨hD.2 41 _ e1, (hP 41 _ e1).lt⟩
  have hapart : ∀ q, zA ax 41 q → s.heap.size ≤ q ∧ q < H.size ∧ q ≠ q1 := by
    intro q hq
    obtain ⟨o, ho, rfl⟩ := hq
    have e := zW_at (ct := zx cI cS cP ax) (M := 41) (ad := ax) (σ := zx0) ho rfl
    have e2 : (zW (zx cI cS cP ax) 41 ax zx0 ++ [(q1, .inr (9, [.int 0, .int 0, .null, .null, .null, .int 0, .int 0, .int 0, .null, .null, .null, .null, .null, .int 0, .int 0, .null, .null, .null, .null, .int 0, .int 0, .int 0, .null, .null, .null, .null, .int 0, .int 0, .int 0, .null, .null, .null]))])[o]? = some (ax o, zx cI cS cP ax o (zx0 o)) := by
      rw [List.getElem?_append_left (by rw [zW_len]; exact ho)]; exact e
    have e1 : (zW (zx cI cS cP ax) 41 ax zx0 ++ [(q1, .inr (9, [.int 0, .int 0, .null, .null, .null, .int 0, .int 0, .int 0, .null, .null, .null, .null, .null, .int 0, .int 0, .null, .null, .null, .null, .int 0, .int 0, .int 0, .null, .null, .null, .null, .int 0, .int 0, .int 0, .null, .null, .null]))])[41]? = some (q1, .inr (9, [.int 0, .int 0, .null, .null, .null, .int 0, .int 0, .int 0, .null, .null, .null, .null, .null, .int 0, .int 0, .null, .null, .null, .null, .int 0, .int 0, .int 0, .null, .null, .null, .null, .int 0, .int 0, .int 0, .null, .null, .null])) := by
      rw [List.getElem?_append_right (by rw [zW_len]; exact Nat.le_refl _), zW_len]; rfl
    exact ⟨hD.2 o _ e2, (hPx o _ e).lt, fun z => by have := hD.1 o 41 _ _ e2 e1 z; omega⟩
  have hDc : va_D (fun _ => True) [((q1 : Nat), ((.inr (9, [.int 0, .int 0, .null, .null, .null, .int 0, .int 0, .int 0, .null, .null, .null, .null, .null, .int 0, .int 0, .null, .null, .null, .null, .int 0, .int 0, .int 0, .null, .null, .null, .null, .int 0, .int 0, .int 0, .null, .null, .null]) : va_E)))] := ⟨fun i j x y hi hj _ => by have h1 := (List.getElem?_eq_some_iff.mp hi).1; have h2 := (List.getElem?_eq_some_iff.mp hj).1; simp at h1 h2; omega, fun _ _ _ => trivial⟩
  have hVA : ∀ q, va_A [((q1 : Nat), ((.inr (9, [.int 0, .int 0, .null, .null, .null, .int 0, .int 0, .int 0, .null, .null, .null, .null, .null, .int 0, .int 0, .null, .null, .null, .null, .int 0, .int 0, .int 0, .null, .null, .null, .null, .int 0, .int 0, .int 0, .null, .null, .null]) : va_E)))] H.size q → q = q1 ∨ H.size ≤ q := by
    intro q h
    rcases h with ⟨k, E, h⟩ | h
    · refine Or.inl ?_
      have h1 : k < 1 := (List.getElem?_eq_some_iff.mp h).1
      rw [show k = 0 by omega] at h
      cases h
      rfl
    · exact Or.inr h
  have hFc : ∀ q, va_A [((q1 : Nat), ((.inr (9, [.int 0, .int 0, .null, .null, .null, .int 0, .int 0, .int 0, .null, .null, .null, .null, .null, .int 0, .int 0, .null, .null, .null, .null, .int 0, .int 0, .int 0, .null, .null, .null, .null, .int 0, .int 0, .int 0, .null, .null, .null]) : va_E)))] H.size q → s.heap.size ≤ q := by
    intro q h
    rcases hVA q h with h | h
    · rw [h]; exact hq1.1
    · exact Nat.le_trans hS.1 h
  refine W.widen (k := 2000) (n := 20000) (Nat.le_of_ble_eq_true rfl) (Nat.le_of_ble_eq_true rfl) ?_
  refine lv_dup hx hb dL_law_11 rfl ?_
  refine va_callv (va_runI (As := []) (rest := [.ref q1]) ⟨hx, hb, hml, hown, htl⟩ (KX10 l D cI cS cP q1 H.size) (cwI 0 htl gL_law_X10_init rfl rfl rfl (hts _ tq_iX10) (hts _ tq_mlX10) (hts _ tq_imX10) rfl (by decide +kernel) ⟨Nat.le_of_ble_eq_true rfl, Nat.le_of_ble_eq_true rfl⟩) (z_preC hNI hK hPc hDc) rfl rfl hl.1 rfl (lv_room (Nat.le_of_ble_eq_true rfl)) dL_law_12 ⟨Nat.le_of_ble_eq_true rfl, Nat.le_of_ble_eq_true rfl⟩) hS (fun q _ h => hFc q h) hFc (fun am t H1 locs ht hvm hw hB hz1 hk1 hS => ?_)
  obtain ⟨hPm, hDm⟩ := hB
  rw [ht] at hPm
  have hno : ∀ q, zA ax 41 q → ¬ va_A [((q1 : Nat), ((.inr (9, [.int 0, .int 0, .null, .null, .null, .int 0, .int 0, .int 0, .null, .null, .null, .null, .null, .int 0, .int 0, .null, .null, .null, .null, .int 0, .int 0, .int 0, .null, .null, .null, .null, .int 0, .int 0, .int 0, .null, .null, .null]) : va_E)))] H.size q := by
    intro q h z
    obtain ⟨h1, h2, h3⟩ := hapart q h
    rcases hVA q z with h | h
    · exact h3 h
    · omega
  have hPx : va_P D vwCl (zW (zx cI cS cP ax) 41 ax zx0) H1 := zW_kept hPx hk1 hno
  have hmA : ∀ q, zA am 20 q → va_A [((q1 : Nat), ((.inr (9, [.int 0, .int 0, .null, .null, .null, .int 0, .int 0, .int 0, .null, .null, .null, .null, .null, .int 0, .int 0, .null, .null, .null, .null, .int 0, .int 0, .int 0, .null, .null, .null, .null, .int 0, .int 0, .int 0, .null, .null, .null]) : va_E)))] H.size q := by
    intro q hq
    obtain ⟨o, ho, rfl⟩ := hq
    exact hDm.2 o _ (zW_at (ct := zm cI am) (M := 20) (ad := am) (σ := zm0) ho rfl)
  have hAx : lw_Ax s ax am := ⟨fun q h1 h2 => hno q h1 (hmA q h2), fun q h => (hapart q h).1, fun q h => hFc q (hmA q h)⟩
  have hw : am 0 = q1 := hw
  have hSt : lw_St s D cI cS cP ax am H1 locs zx0 zm0 := ⟨hPx, ⟨hDy.1, fun k q hk => zW_in hk⟩, hPm, ⟨hDm.1, fun k q hk => zW_in hk⟩, hS⟩
  clear hP hD hFc hk1 hz1 ht hvm hPc hDc hVA hno hmA hq1 hapart hDy hPx hPm hDm
  subst hw
  refine W.widen (k := 3000) (n := 30000) (Nat.le_of_ble_eq_true rfl) (Nat.le_of_ble_eq_true rfl) ?_
  refine lv_astore_n (lv' := [(2, .ref (am 0)), (1, .ref (ax 0)), (0, .ref b)]) hx hb dL_law_15 rfl hl (by decide) rfl (fun ls hl => ?_)
  refine lv_iconst (v := (0 : Int32)) hx hb dL_law_16 (by decide) ?_
  refine lv_istore_n (lv' := [(3, .int (0)), (2, .ref (am 0)), (1, .ref (ax 0)), (0, .ref b)]) hx hb dL_law_17 rfl hl (by decide) rfl (fun ls hl => ?_)
  exact law_loop ⟨hx, hb, hml, hown, htl, hX, hbl, hK, hN, hAx⟩ hr hlocks hL ⟨Nat.le_of_ble_eq_true rfl, Nat.le_of_ble_eq_true rfl⟩ (L + 1) 0 H1 locs zx0 zm0 ls (by omega) (by omega) hSt zR_00 hl
