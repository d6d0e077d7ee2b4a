/-! THE CLAIM OUT OF ONE WALK OF THE LAW'S BODY. Your part is whole_start (and what it stands on); all else here is the same for every law, but numbers. -/
def R_law : String := "LeastAskedLaw"
def lw_P (b : Addr) (xs : List Int32) (args : Array Value) (s : State) : Prop := args = #[.ref b] ∧ s.IntsAt b xs ∧ xs.length ≤ 3072 ∧ (Jvm.Cond.and given_1 narrow_1).before args s = true
def lw_Q (_ : Array Value) (s : State) (o : Outcome) (t : State) : Prop := o = .returned (some (.int 1)) ∧ Framed s o t [] 600000 7302250
def lw_Z (below : List Frame) (a : Array Value) (s : State) : State → Prop := fun t => ∃ o, t.status = .running ∧ Ended t below o ∧ lw_Q a s o t
/-- the law's own end, with 1 on the stack, nothing written that was there before, its room as the claim has it -/
theorem lw_ret {p : Program} {l : Launch} {e : Env} {s : State} {m : MethodId} {below : List Frame} {meth : Method} {c : Code} {b : Nat} (hx : p.tables.exec = Jvm.exec) (hb : c.code = code) (hr : meth.sig.returnType = ret) (hlocks : meth.locks = false) {pc : Nat} {H : Heap} {ls : Array Slot} (hdg : decode code pc = .ok (.ireturn, 1)) : W p l e room_1 s m #[Value.ref b] below meth c H [] 600000 7302250 (lw_Z below #[Value.ref b] s) (F0 m pc ls [.int 1]) := by
  intro T hT X
  obtain ⟨fs, hret, hrun, hended, hW, hframe⟩ := X.leave (v := some (.int 1)) (hlocks := hlocks) (fun h => by rw [hr] at h; cases h)
  have hmeth' : T.vm.method? m = some meth := X.method'
  refine ⟨T.setFrames fs, ?_, .returned (some (.int 1)), hrun, hended, rfl, ⟨_, rfl⟩, hW, hframe⟩
  jvm_step X.here [X.here.top, hx, hb, hdg, hmeth', hr, ret, narrow_b1]
  (try refine ⟨rfl, ?_⟩); (try refine ⟨rfl, ?_⟩)
  first | (intro acts; rw [hret _ acts rfl rfl rfl]) | rw [hret _ _ rfl rfl rfl]
  exact Steps.refl _
/-- what holds at the law's entry: the machine, the code, the tables' words (any of lw_tbl by 'hts w (by decide +kernel)'), the script of L ints xs at the cell b, what the Statement gives of the start (any of its parts by flat_of_before) -/
def lw_At (p : Program) (s : State) (m : MethodId) (meth : Method) (c : Code) (b L : Nat) (xs : Nat → Int32) : Prop :=
  p.tables.exec = Jvm.exec ∧ c.code = code ∧ meth.sig.returnType = ret ∧ c.maxLocals = 4 ∧ s.vm.findClass R_law = some m.cls ∧ (∀ w ∈ lw_tbl, w.before #[Value.ref b] s = true) ∧ va_X b L xs s s.heap ∧ b < s.heap.size ∧ meth.locks = false ∧ (Jvm.Cond.and given_1 narrow_1).before #[Value.ref b] s = true
/-! ===== the law: its loop ===== -/
theorem lw_gt6 : ∀ L, L < 6 → Int32.ofNat L - 6 < 0 := by decide
theorem lw_stop {L t : Nat} (hL : L ≤ 3072) (ht : t ≤ 512) (z : ¬ Int32.ofNat L - 6 < nI (6 * t)) : 6 * t + 6 ≤ L := by
  rcases Nat.lt_or_ge L 6 with q | q
  · exact absurd (Int32.lt_of_lt_of_le (lw_gt6 L q) (nI_pos' (by omega))) z
  · rw [show Int32.ofNat L - 6 = nI (L - 6) from pk_sub (a := L) (b := 6) q] at z
    rcases Nat.lt_or_ge (L - 6) (6 * t) with q2 | q2
    · exact absurd (nI_lt q2 (by omega)) z
    · omega
theorem lw_out {x : Int32} (h : x < 0 ∨ nI 34 ≤ x) : x.toInt < 0 ∨ 33 < x.toInt := by
  rcases h with h | h
  · exact Or.inl (Int32.lt_iff_toInt_lt.mp h)
  · have h1 := Int32.le_iff_toInt_le.mp h
    rw [show (nI 34).toInt = 34 from by decide] at h1
    exact Or.inr (by omega)
set_option maxHeartbeats 8000000 in
set_option maxRecDepth 100000 in
theorem law_loop {p : Program} {l : Launch} {e : Env} {s : State} {m : MethodId} {below : List Frame} {meth : Method} {c : Code} {b L : Nat} {xs : Nat → Int32} {D : va_G} {cI cS cP : ClassId} {ax am : Nat → Nat} {cells slots : Nat} (hC : lw_Ctx p s m c b L xs D cI cS cP ax am) (hr : meth.sig.returnType = ret) (hlocks : meth.locks = false) (hL : L ≤ 3072) (hcs : cells ≤ 600000 ∧ slots ≤ 7302250) : ∀ (f t : Nat) (H : Heap) (locs : List Loc) (σx σm : zMem) (ls : Array Slot), L < 6 * (t + f) → t ≤ 512 → lw_St s D cI cS cP ax am H locs σx σm → zR t σx σm → lv_has ls 4 [(3, .int (nI (6 * t))), (2, .ref (am 0)), (1, .ref (ax 0)), (0, .ref b)] → W p l e room_1 s m #[Value.ref b] below meth c H locs cells slots (lw_Z below #[Value.ref b] s) (F0 m 18 ls []) := by
  obtain ⟨hx, hb, hml, hown, hts, hX, hbl, hK, hN, hA⟩ := id hC
  have hbA : ¬ (fun q : Nat => s.heap.size ≤ q) b := Nat.not_le.mpr hbl
  have head : ∀ (t : Nat) (H : Heap) (locs : List Loc) (σx σm : zMem) (ls : Array Slot), t ≤ 512 → lw_St s D cI cS cP ax am H locs σx σm → lv_has ls 4 [(3, .int (nI (6 * t))), (2, .ref (am 0)), (1, .ref (ax 0)), (0, .ref b)] → (6 * t + 6 ≤ L → W p l e room_1 s m #[Value.ref b] below meth c H locs cells slots (lw_Z below #[Value.ref b] s) (F0 m 27 ls [])) → W p l e room_1 s m #[Value.ref b] below meth c H locs cells slots (lw_Z below #[Value.ref b] s) (F0 m 18 ls []) := by
    intro t H locs σx σm ls ht hSt hl kf
    refine lv_iload_n hx hb dL_law_18 rfl (lv_at hl 0 rfl) ?_
    refine lv_aload_n hx hb dL_law_19 rfl (lv_at hl 3 rfl) ?_
    refine va_slen hx hb hX hbl hbA hSt.2.2.2.2 dL_law_20 ?_
    refine lv_bipush (v := (6 : Int32)) hx hb dL_law_21 (by decide) ?_
    refine lv_isub hx hb dL_law_23 ?_
    refine lv_icmp_gt (tgt := 1254) hx hb dL_law_24 (by decide) (fun _ => ?_) (fun z => kf (lw_stop hL ht z))
    refine lv_iconst (v := (1 : Int32)) hx hb dL_law_1254 (by decide) ?_
    refine va_forget (fun q hq => hSt.2.2.2.2.2.2 q hq) ?_
    refine W.widen (k := 600000) (n := 7302250) hcs.1 hcs.2 ?_
    exact lw_ret hx hb hr hlocks dL_law_1255
  intro f
  induction f with
  | zero =>
    intro t H locs σx σm ls hf ht hSt hR hl
    exact head t H locs σx σm ls ht hSt hl (fun q => absurd q (by omega))
  | succ f ih =>
    intro t H locs σx σm ls hf ht hSt hR hl
    refine head t H locs σx σm ls ht hSt hl (fun h6 => ?_)
    refine lv_aload_n hx hb dL_law_27 rfl (lv_at hl 3 rfl) ?_
    refine lv_iload_n hx hb dL_law_28 rfl (lv_at hl 0 rfl) ?_
    refine va_sld hx hb hX hbl hbA hSt.2.2.2.2 (vp_in_nI (show 6 * t < L by omega) (by omega)) dL_law_29 ?_
    refine lv_bipush (v := (63 : Int32)) hx hb dL_law_30 (by decide) ?_
    refine lv_iand hx hb dL_law_32 ?_
    have kk : ∀ (H : Heap) (locs : List Loc) (σx σm : zMem), lw_St s D cI cS cP ax am H locs σx σm → zR (t + 1) σx σm → W p l e room_1 s m #[Value.ref b] below meth c H locs cells slots (lw_Z below #[Value.ref b] s) (F0 m 1248 ls []) := by
      intro H locs σx σm hSt hR
      refine lv_iinc (v := nI (6 * (t + 1))) (lv' := [(3, .int (nI (6 * (t + 1)))), (2, .ref (am 0)), (1, .ref (ax 0)), (0, .ref b)]) hx hb dL_law_1248 hl (k := 0) rfl (by rw [show 6 * (t + 1) = 6 * t + 6 by omega, ← nI_add]; rfl) (by decide) rfl (fun ls hl => ?_)
      refine lv_goto (tgt := 18) hx hb dL_law_1251 (by decide) ?_
      exact ih (t + 1) H locs σx σm ls (by omega) (by omega) hSt hR hl
    generalize (xs (nI (6 * t)).toNatClampNeg &&& 63) = x
    rcases z_cs x 34 (by decide) with ⟨j, hj, rfl⟩ | h
    · match j, hj with
      | 0, _ => exact lv_tableIn (off := 151) (tgt := 184) hx hb dL_law_33 (by decide) (by decide) (by decide) (by decide) (law_c0 hC hL h6 hcs hl hSt hR kk)
      | 1, _ => exact lv_tableIn (off := 204) (tgt := 237) hx hb dL_law_33 (by decide) (by decide) (by decide) (by decide) (law_c1 hC hL h6 hcs hl hSt hR kk)
      | 2, _ => exact lv_tableIn (off := 237) (tgt := 270) hx hb dL_law_33 (by decide) (by decide) (by decide) (by decide) (law_c2 hC hL h6 hcs hl hSt hR kk)
      | 3, _ => exact lv_tableIn (off := 260) (tgt := 293) hx hb dL_law_33 (by decide) (by decide) (by decide) (by decide) (law_c3 hC hL h6 hcs hl hSt hR kk)
      | 4, _ => exact lv_tableIn (off := 293) (tgt := 326) hx hb dL_law_33 (by decide) (by decide) (by decide) (by decide) (law_c4 hC hL h6 hcs hl hSt hR kk)
      | 5, _ => exact lv_tableIn (off := 326) (tgt := 359) hx hb dL_law_33 (by decide) (by decide) (by decide) (by decide) (law_c5 hC hL h6 hcs hl hSt hR kk)
      | 6, _ => exact lv_tableIn (off := 359) (tgt := 392) hx hb dL_law_33 (by decide) (by decide) (by decide) (by decide) (law_c6 hC hL h6 hcs hl hSt hR kk)
      | 7, _ => exact lv_tableIn (off := 392) (tgt := 425) hx hb dL_law_33 (by decide) (by decide) (by decide) (by decide) (law_c7 hC hL h6 hcs hl hSt hR kk)
      | 8, _ => exact lv_tableIn (off := 415) (tgt := 448) hx hb dL_law_33 (by decide) (by decide) (by decide) (by decide) (law_c8 hC hL h6 hcs hl hSt hR kk)
      | 9, _ => exact lv_tableIn (off := 438) (tgt := 471) hx hb dL_law_33 (by decide) (by decide) (by decide) (by decide) (law_c9 hC hL h6 hcs hl hSt hR kk)
      | 10, _ => exact lv_tableIn (off := 501) (tgt := 534) hx hb dL_law_33 (by decide) (by decide) (by decide) (by decide) (law_c10 hC hL h6 hcs hl hSt hR kk)
      | 11, _ => exact lv_tableIn (off := 524) (tgt := 557) hx hb dL_law_33 (by decide) (by decide) (by decide) (by decide) (law_c11 hC hL h6 hcs hl hSt hR kk)
      | 12, _ => exact lv_tableIn (off := 547) (tgt := 580) hx hb dL_law_33 (by decide) (by decide) (by decide) (by decide) (law_c12 hC hL h6 hcs hl hSt hR kk)
      | 13, _ => exact lv_tableIn (off := 570) (tgt := 603) hx hb dL_law_33 (by decide) (by decide) (by decide) (by decide) (law_c13 hC hL h6 hcs hl hSt hR kk)
      | 14, _ => exact lv_tableIn (off := 583) (tgt := 616) hx hb dL_law_33 (by decide) (by decide) (by decide) (by decide) (law_c14 hC hL h6 hcs hl hSt hR kk)
      | 15, _ => exact lv_tableIn (off := 646) (tgt := 679) hx hb dL_law_33 (by decide) (by decide) (by decide) (by decide) (law_c15 hC hL h6 hcs hl hSt hR kk)
      | 16, _ => exact lv_tableIn (off := 669) (tgt := 702) hx hb dL_law_33 (by decide) (by decide) (by decide) (by decide) (law_c16 hC hL h6 hcs hl hSt hR kk)
      | 17, _ => exact lv_tableIn (off := 712) (tgt := 745) hx hb dL_law_33 (by decide) (by decide) (by decide) (by decide) (law_c17 hC hL h6 hcs hl hSt hR kk)
      | 18, _ => exact lv_tableIn (off := 735) (tgt := 768) hx hb dL_law_33 (by decide) (by decide) (by decide) (by decide) (law_c18 hC hL h6 hcs hl hSt hR kk)
      | 19, _ => exact lv_tableIn (off := 758) (tgt := 791) hx hb dL_law_33 (by decide) (by decide) (by decide) (by decide) (law_c19 hC hL h6 hcs hl hSt hR kk)
      | 20, _ => exact lv_tableIn (off := 781) (tgt := 814) hx hb dL_law_33 (by decide) (by decide) (by decide) (by decide) (law_c20 hC hL h6 hcs hl hSt hR kk)
      | 21, _ => exact lv_tableIn (off := 804) (tgt := 837) hx hb dL_law_33 (by decide) (by decide) (by decide) (by decide) (law_c21 hC hL h6 hcs hl hSt hR kk)
      | 22, _ => exact lv_tableIn (off := 827) (tgt := 860) hx hb dL_law_33 (by decide) (by decide) (by decide) (by decide) (law_c22 hC hL h6 hcs hl hSt hR kk)
      | 23, _ => exact lv_tableIn (off := 871) (tgt := 904) hx hb dL_law_33 (by decide) (by decide) (by decide) (by decide) (law_c23 hC hL h6 hcs hl hSt hR kk)
      | 24, _ => exact lv_tableIn (off := 914) (tgt := 947) hx hb dL_law_33 (by decide) (by decide) (by decide) (by decide) (law_c24 hC hL h6 hcs hl hSt hR kk)
      | 25, _ => exact lv_tableIn (off := 937) (tgt := 970) hx hb dL_law_33 (by decide) (by decide) (by decide) (by decide) (law_c25 hC hL h6 hcs hl hSt hR kk)
      | 26, _ => exact lv_tableIn (off := 980) (tgt := 1013) hx hb dL_law_33 (by decide) (by decide) (by decide) (by decide) (law_c26 hC hL h6 hcs hl hSt hR kk)
      | 27, _ => exact lv_tableIn (off := 1024) (tgt := 1057) hx hb dL_law_33 (by decide) (by decide) (by decide) (by decide) (law_c27 hC hL h6 hcs hl hSt hR kk)
      | 28, _ => exact lv_tableIn (off := 1087) (tgt := 1120) hx hb dL_law_33 (by decide) (by decide) (by decide) (by decide) (law_c28 hC hL h6 hcs hl hSt hR kk)
      | 29, _ => exact lv_tableIn (off := 1110) (tgt := 1143) hx hb dL_law_33 (by decide) (by decide) (by decide) (by decide) (law_c29 hC hL h6 hcs hl hSt hR kk)
      | 30, _ => exact lv_tableIn (off := 1133) (tgt := 1166) hx hb dL_law_33 (by decide) (by decide) (by decide) (by decide) (law_c30 hC hL h6 hcs hl hSt hR kk)
      | 31, _ => exact lv_tableIn (off := 1166) (tgt := 1199) hx hb dL_law_33 (by decide) (by decide) (by decide) (by decide) (law_c31 hC hL h6 hcs hl hSt hR kk)
      | 32, _ => exact lv_tableIn (off := 1179) (tgt := 1212) hx hb dL_law_33 (by decide) (by decide) (by decide) (by decide) (law_c32 hC hL h6 hcs hl hSt hR kk)
      | 33, _ => exact lv_tableIn (off := 1192) (tgt := 1225) hx hb dL_law_33 (by decide) (by decide) (by decide) (by decide) (law_c33 hC hL h6 hcs hl hSt hR kk)
      | k + 34, h => exact absurd h (by omega)
    · exact lv_tableOut (tgt := 1248) hx hb dL_law_33 (lw_out h) (by decide) (kk H locs σx σm hSt (zR_next hR))
