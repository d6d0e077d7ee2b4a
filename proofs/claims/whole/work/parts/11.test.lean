def FX9_isBelow (n : Nat) (σ : zMem) (p1 : Int32) (p2 : Int32) : Option (Int32 × zMem) := zif (p1 < 0) (some ((0 : Int32), σ)) (zif (p2 ≤ p1) (some ((0 : Int32), σ)) (some ((1 : Int32), σ)))
def FX4_hasPerson (n : Nat) (o : Nat) (σ : zMem) (p1 : Int32) : Option (Int32 × zMem) := zbd (FX9_isBelow n σ p1 (σ o 2)) (fun r2 σ1 => zgd (r2 = 0 ∨ r2 = 1) (some (r2, σ1)))
def LBX4_first_4 (n : Nat) (o : Nat) (k4 : zMem × Int32 × Int32 → Option (Int32 × zMem)) (σ : zMem) (l1 : Int32) (l2 : Int32) : Option (Int32 × zMem) := zif ((σ o 2) ≤ l2) (some ((l1 : Int32), σ)) (zgd (¬ ((l2 : Int32) < 0 ∨ 6 ≤ (l2 : Int32).toNatClampNeg)) (zgd (¬ ((l1 : Int32) < 0 ∨ 6 ≤ (l1 : Int32).toNatClampNeg)) (zif ((σ ((o + 3) + (l1 : Int32).toNatClampNeg) 1) ≤ (σ ((o + 3) + (l2 : Int32).toNatClampNeg) 1)) (k4 (σ, l1, (l2 + (1 : Int32)))) (k4 (σ, l2, (l2 + (1 : Int32)))))))
def LX4_first_4 (n : Nat) (o : Nat) (k4 : zMem × Int32 × Int32 → Option (Int32 × zMem)) (s : zMem × Int32 × Int32) : Option (Int32 × zMem) := LBX4_first_4 n o  k4 s.1 s.2.1 s.2.2
def FX4_first (n : Nat) (o : Nat) (σ : zMem) : Option (Int32 × zMem) := zlp (LX4_first_4 n o ) n (σ, (0 : Int32), (1 : Int32))
def FX2_saying (n : Nat) (o : Nat) (σ : zMem) : Option (Int32 × zMem) := zif ((σ o 0) = (1 : Int32)) (some ((((σ o 3) + (1 : Int32)) : Int32), σ)) (zif ((σ o 0) = (2 : Int32)) (some ((((2 : Int32) * (σ o 3)) : Int32), σ)) (some (((σ o 3) : Int32), σ)))
def FX2_isKnowing (n : Nat) (o : Nat) (σ : zMem) (p1 : Int32) : Option (Int32 × zMem) := zif ((((σ o 2) >>> (p1 &&& 31)) &&& (1 : Int32)) = (1 : Int32)) (some ((1 : Int32), σ)) (some ((0 : Int32), σ))
def FX0_begin (n : Nat) (o : Nat) (σ : zMem) (p1 : Int32) : Option (Int32 × zMem) := zlet (zst σ o 0 (((31 : Int32) * (σ o 0)) + p1)) (fun σ1 => some ((0 : Int32), σ1))
def FX9_failed (n : Nat) (σ : zMem) (p1 : Int32) : Option (Int32 × zMem) := zlet (zst σ 0 10 p1) (fun σ1 => some ((((-10 : Int32) - p1) : Int32), σ1))
def FX10_within (n : Nat) (σ : zMem) (p1 : Int32) (p2 : Int32) (p3 : Int32) : Option (Int32 × zMem) := zif (p1 < p2) (some ((0 : Int32), σ)) (zif (p3 < p1) (some ((0 : Int32), σ)) (some ((1 : Int32), σ)))
def LBX10_firstOf_4 (n : Nat) (k4 : zMem × Int32 × Int32 → Option (Int32 × zMem)) (σ : zMem) (l1 : Int32) (l2 : Int32) : Option (Int32 × zMem) := zif ((σ 0 5) ≤ l2) (some ((l1 : Int32), σ)) (zgd (¬ ((l2 : Int32) < 0 ∨ 6 ≤ (l2 : Int32).toNatClampNeg)) (zgd (¬ ((l1 : Int32) < 0 ∨ 6 ≤ (l1 : Int32).toNatClampNeg)) (zif ((σ 6 (l1 : Int32).toNatClampNeg) ≤ (σ 6 (l2 : Int32).toNatClampNeg)) (k4 (σ, l1, (l2 + (1 : Int32)))) (k4 (σ, l2, (l2 + (1 : Int32)))))))
def LX10_firstOf_4 (n : Nat) (k4 : zMem × Int32 × Int32 → Option (Int32 × zMem)) (s : zMem × Int32 × Int32) : Option (Int32 × zMem) := LBX10_firstOf_4 n   k4 s.1 s.2.1 s.2.2
def FX10_firstOf (n : Nat) (σ : zMem) : Option (Int32 × zMem) := zlp (LX10_firstOf_4 n  ) n (σ, (0 : Int32), (1 : Int32))
def FX10_fails (n : Nat) (σ : zMem) (p1 : Int32) : Option (Int32 × zMem) := zlet (zst σ 0 0 p1) (fun σ1 => some ((((-10 : Int32) - p1) : Int32), σ1))
set_option maxHeartbeats 4000000 in
set_option maxRecDepth 100000 in
theorem CX9_isBelow (l : Launch) (D : va_G) (cI cS cP : ClassId) (ad : Nat → Nat) (A : Nat → Prop) (n : Nat) (σ σ' : zMem) (r0 : Int32) (p1 : Int32) (p2 : Int32) (hF : FX9_isBelow n σ p1 p2 = some (r0, σ')) : Met l yX9_isBelow wsX9_isBelow ({ frames := 0, cells := 0, slots := 0, locals := 0 } : Room) (va_Pc [.int p1, .int p2] (zB (zx cI cS cP ad) 41 ad D (zty cI cS cP) A σ)) (va_Qi (fun r u => r = r0 ∧ u = σ') (zB (zx cI cS cP ad) 41 ad D (zty cI cS cP) A) A) 0 0 A := by
  refine Met.ofW (cc := cX9_isBelow) (maxL := 2) (ret := (some .boolean)) (by decide) rfl ?_
  intro p e s m args below meth c s₁ B hml hv
  obtain ⟨rfl, hP, hK, hD, hN⟩ := hv
  have hx := B.exec
  have hb := B.bytes
  have hr := B.returns
  have hts := atoms_spec (ws := wsX9_isBelow) B.pre
  have hown : s.vm.findClass RX9 = some m.cls := findClass_of_methodNamed B.named
  have hlocks := B.notSynchronized
  have hS : va_S A s.heap s.heap [] := va_S.rf
  have hl := lv_entry ([.int p1, .int p2]) (n := 2) (Nat.le_of_ble_eq_true rfl)
  rw [lg_entry_eq]
  generalize (lg_sl ([.int p1, .int p2]) ++ List.replicate (2 - (lg_sl ([.int p1, .int p2])).length) Slot.unset).toArray = ls at hl ⊢
  have hl : lv_has ls 2 [(0, .int p1), (1, .int p2)] := hl
  clear B
  unfold FX9_isBelow at hF
  refine lv_iload_n hx hb dX9_isBelow_0 rfl (lv_at hl 0 rfl) ?_
  refine lv_if_lt (tgt := 13) hx hb dX9_isBelow_1 (by decide) (fun b1 => ?_) (fun b1 => ?_)
  · have hF := zif_t b1 hF
    refine lv_iconst (v := (0 : Int32)) hx hb dX9_isBelow_13 (by decide) ?_
    exact z_zret hx hb hr hlocks (Or.inl rfl) hN hK hP hD hS hF dX9_isBelow_14
  · have hF := zif_f b1 hF
    refine lv_iload_n hx hb dX9_isBelow_4 rfl (lv_at hl 0 rfl) ?_
    refine lv_iload_n hx hb dX9_isBelow_5 rfl (lv_at hl 1 rfl) ?_
    refine lv_icmp_ge (tgt := 13) hx hb dX9_isBelow_6 (by decide) (fun b2 => ?_) (fun b2 => ?_)
    · have hF := zif_t b2 hF
      refine lv_iconst (v := (0 : Int32)) hx hb dX9_isBelow_13 (by decide) ?_
      exact z_zret hx hb hr hlocks (Or.inl rfl) hN hK hP hD hS hF dX9_isBelow_14
    · have hF := zif_f b2 hF
      refine lv_iconst (v := (1 : Int32)) hx hb dX9_isBelow_9 (by decide) ?_
      refine lv_goto (tgt := 14) hx hb dX9_isBelow_10 (by decide) ?_
      exact z_zret hx hb hr hlocks (Or.inr rfl) hN hK hP hD hS hF dX9_isBelow_14
theorem kX4_hasPerson_f21 : Cond.fieldLink RX4 21 "LeastAsked$Province" "count" "I" ∈ wsX4_hasPerson := by decide +kernel
theorem kX4_hasPerson_iX9 : Cond.initialized RX9 ∈ wsX4_hasPerson := by decide +kernel
theorem kX4_hasPerson_stX9_isBelow : Cond.static yX9_isBelow ∈ wsX4_hasPerson := by decide +kernel
theorem iX4_hasPerson_X4 : ∀ w ∈ u_ws RX4 TX4 3, w ∈ wsX4_hasPerson := fun _ h => List.mem_cons_of_mem _ (List.mem_append_right _ h)
set_option maxHeartbeats 4000000 in
set_option maxRecDepth 100000 in
theorem CX4_hasPerson (l : Launch) (D : va_G) (cI cS cP : ClassId) (ad : Nat → Nat) (A : Nat → Prop) (n : Nat) (σ σ' : zMem) (r0 : Int32) (o : Nat) (p1 : Int32) (ho : zk o = 4) (hF : FX4_hasPerson n o σ p1 = some (r0, σ')) : Met l yX4_hasPerson wsX4_hasPerson ({ frames := 1, cells := 0, slots := 0, locals := 21 } : Room) (va_Pc [.ref (ad o), .int p1] (zB (zx cI cS cP ad) 41 ad D (zty cI cS cP) A σ)) (va_Qi (fun r u => r = r0 ∧ u = σ') (zB (zx cI cS cP ad) 41 ad D (zty cI cS cP) A) A) 0 0 A := by
  refine Met.ofW (cc := cX4_hasPerson) (maxL := 2) (ret := (some .boolean)) (by decide) rfl ?_
  intro p e s m args below meth c s₁ B hml hv
  obtain ⟨rfl, hP, hK, hD, hN⟩ := hv
  have hx := B.exec
  have hb := B.bytes
  have hr := B.returns
  have hts := atoms_spec (ws := wsX4_hasPerson) B.pre
  have hown : s.vm.findClass RX4 = some m.cls := findClass_of_methodNamed B.named
  have hlocks := B.notSynchronized
  have hS : va_S A s.heap s.heap [] := va_S.rf
  have hl := lv_entry ([.ref (ad o), .int p1]) (n := 2) (Nat.le_of_ble_eq_true rfl)
  rw [lg_entry_eq]
  generalize (lg_sl ([.ref (ad o), .int p1]) ++ List.replicate (2 - (lg_sl ([.ref (ad o), .int p1])).length) Slot.unset).toArray = ls at hl ⊢
  have hl : lv_has ls 2 [(0, .ref (ad o)), (1, .int p1)] := hl
  clear B
  unfold FX4_hasPerson at hF
  refine lv_iload_n hx hb dX4_hasPerson_0 rfl (lv_at hl 1 rfl) ?_
  refine lv_aload_n hx hb dX4_hasPerson_1 rfl (lv_at hl 0 rfl) ?_
  refine z_get (ci := 4) (C := RX4) (T := TX4) (N := 3) hx hb hts iX4_hasPerson_X4 hown hK hP (zk_lt ho (by decide)) (zx_4 ho) rfl 2 (by decide) kX4_hasPerson_f21 rfl (v := .int (σ o 2)) rfl dX4_hasPerson_2 ?_
  obtain ⟨r2, σ1, hC3, hF⟩ := zbd_inv hF
  refine z_calli (va_runSN (As := [.int p1, .int (σ o 2)]) (rest := []) ⟨hx, hb, hml, hown, hts⟩ (CX9_isBelow l D cI cS cP ad A n σ σ1 r2 p1 (σ o 2) hC3) ⟨va_cnB 2 hts gX4_hasPerson_X9_isBelow_n45 rfl rfl rfl hN.1 (hts _ kX4_hasPerson_iX9) (by decide +kernel) ⟨Nat.le_of_ble_eq_true rfl, Nat.le_of_ble_eq_true rfl⟩, hts _ kX4_hasPerson_stX9_isBelow, trivial⟩ (z_preS hN hK hP hD) rfl rfl hl.1 rfl (lv_room (Nat.le_of_ble_eq_true rfl)) dX4_hasPerson_5 ⟨Nat.zero_le _, Nat.zero_le _⟩) hS (fun H locs hP hD hS => ?_)
  obtain ⟨g4, hF⟩ := zgd_inv hF
  exact z_zret hx hb hr hlocks g4 hN hK hP hD hS hF dX4_hasPerson_8
theorem kX4_first_f21 : Cond.fieldLink RX4 21 "LeastAsked$Province" "count" "I" ∈ wsX4_first := by decide +kernel
theorem kX4_first_f17 : Cond.fieldLink RX4 17 "LeastAsked$Province" "people" "[LLeastAsked$Person;" ∈ wsX4_first := by decide +kernel
theorem kX4_first_f57 : Cond.fieldLink RX4 57 "LeastAsked$Person" "asked" "I" ∈ wsX4_first := by decide +kernel
theorem iX4_first_X4 : ∀ w ∈ u_ws RX4 TX4 3, w ∈ wsX4_first := fun _ h => List.mem_cons_of_mem _ (List.mem_append_left _ (List.mem_append_right _ h))
theorem iX4_first_X2 : ∀ w ∈ u_ws RX2 TX2 4, w ∈ wsX4_first := fun _ h => List.mem_cons_of_mem _ (List.mem_append_right _ h)
set_option maxHeartbeats 4000000 in
set_option maxRecDepth 100000 in
theorem CX4_first (l : Launch) (D : va_G) (cI cS cP : ClassId) (ad : Nat → Nat) (A : Nat → Prop) (n : Nat) (σ σ' : zMem) (r0 : Int32) (o : Nat) (ho : zk o = 4) (hF : FX4_first n o σ = some (r0, σ')) : Met l yX4_first wsX4_first ({ frames := 0, cells := 0, slots := 0, locals := 0 } : Room) (va_Pc [.ref (ad o)] (zB (zx cI cS cP ad) 41 ad D (zty cI cS cP) A σ)) (va_Qi (fun r u => r = r0 ∧ u = σ') (zB (zx cI cS cP ad) 41 ad D (zty cI cS cP) A) A) 0 0 A := by
  refine Met.ofW (cc := cX4_first) (maxL := 3) (ret := (some .int)) (by decide) rfl ?_
  intro p e s m args below meth c s₁ B hml hv
  obtain ⟨rfl, hP, hK, hD, hN⟩ := hv
  have hx := B.exec
  have hb := B.bytes
  have hr := B.returns
  have hts := atoms_spec (ws := wsX4_first) B.pre
  have hown : s.vm.findClass RX4 = some m.cls := findClass_of_methodNamed B.named
  have hlocks := B.notSynchronized
  have hS : va_S A s.heap s.heap [] := va_S.rf
  have hl := lv_entry ([.ref (ad o)]) (n := 3) (Nat.le_of_ble_eq_true rfl)
  rw [lg_entry_eq]
  generalize (lg_sl ([.ref (ad o)]) ++ List.replicate (3 - (lg_sl ([.ref (ad o)])).length) Slot.unset).toArray = ls at hl ⊢
  have hl : lv_has ls 3 [(0, .ref (ad o))] := hl
  clear B
  have hB4 : ∀ (f4 : Nat) (σ : zMem) (l1 : Int32) (l2 : Int32) (H : Heap) (locs : List Loc) (ls : Array Slot), zlp (LX4_first_4 n o) f4 (σ, l1, l2) = some (r0, σ') → va_P D vwCl (zW (zx cI cS cP ad) 41 ad σ) H → va_D A (zW (zx cI cS cP ad) 41 ad σ) → va_S A s.heap H locs → lv_has ls 3 [(0, .ref (ad o)), (1, .int l1), (2, .int l2)] → W p l e (headSpec wsX4_first ({ frames := 0, cells := 0, slots := 0, locals := 0 } : Room)).room s m ([.ref (ad o)] : List Value).toArray below meth c H locs 0 0 (MQ below (va_Qi (fun r u => r = r0 ∧ u = σ') (zB (zx cI cS cP ad) 41 ad D (zty cI cS cP) A) A) ([.ref (ad o)] : List Value).toArray s 0 0 A) (F0 m 4 ls []) := by
    intro f4
    induction f4 with
    | zero => intro σ l1 l2 H locs ls hF hP hD hS hl; exact (zlp_0 hF).elim
    | succ f4 ih4 =>
      intro σ l1 l2 H locs ls hF hP hD hS hl
      have hF : LBX4_first_4 n o  (zlp (LX4_first_4 n o) f4) σ l1 l2 = some (r0, σ') := hF
      unfold LBX4_first_4 at hF
      refine lv_iload_n hx hb dX4_first_4 rfl (lv_at hl 2 rfl) ?_
      refine lv_aload_n hx hb dX4_first_5 rfl (lv_at hl 0 rfl) ?_
      refine z_get (ci := 4) (C := RX4) (T := TX4) (N := 3) hx hb hts iX4_first_X4 hown hK hP (zk_lt ho (by decide)) (zx_4 ho) rfl 2 (by decide) kX4_first_f21 rfl (v := .int (σ o 2)) rfl dX4_first_6 ?_
      refine lv_icmp_ge (tgt := 41) hx hb dX4_first_9 (by decide) (fun b1 => ?_) (fun b1 => ?_)
      · have hF := zif_t b1 hF
        refine lv_iload_n hx hb dX4_first_41 rfl (lv_at hl 1 rfl) ?_
        exact z_iret hx hb hr hlocks hN hK hP hD hS hF dX4_first_42
      · have hF := zif_f b1 hF
        refine lv_aload_n hx hb dX4_first_12 rfl (lv_at hl 0 rfl) ?_
        refine z_get (ci := 4) (C := RX4) (T := TX4) (N := 3) hx hb hts iX4_first_X4 hown hK hP (zk_lt ho (by decide)) (zx_4 ho) rfl 1 (by decide) kX4_first_f17 rfl (v := .ref (ad (o + 2))) rfl dX4_first_13 ?_
        refine lv_iload_n hx hb dX4_first_16 rfl (lv_at hl 2 rfl) ?_
        obtain ⟨g2, hF⟩ := zgd_inv hF
        refine z_aldq hx hb hK hP 2 (zk_lt (zk_4p ho) (by decide)) (zx_22 (zk_4p ho)) rfl g2 dX4_first_17 ?_
        refine z_get (ci := 2) (C := RX2) (T := TX2) (N := 4) hx hb hts iX4_first_X2 hown hK hP (zk_lt (zk_22p (zk_4p ho) g2) (by decide)) (zx_2 (zk_22p (zk_4p ho) g2)) rfl 1 (by decide) kX4_first_f57 rfl (v := .int (σ ((o + 3) + (l2 : Int32).toNatClampNeg) 1)) rfl dX4_first_18 ?_
        refine lv_aload_n hx hb dX4_first_21 rfl (lv_at hl 0 rfl) ?_
        refine z_get (ci := 4) (C := RX4) (T := TX4) (N := 3) hx hb hts iX4_first_X4 hown hK hP (zk_lt ho (by decide)) (zx_4 ho) rfl 1 (by decide) kX4_first_f17 rfl (v := .ref (ad (o + 2))) rfl dX4_first_22 ?_
        refine lv_iload_n hx hb dX4_first_25 rfl (lv_at hl 1 rfl) ?_
        obtain ⟨g3, hF⟩ := zgd_inv hF
        refine z_aldq hx hb hK hP 2 (zk_lt (zk_4p ho) (by decide)) (zx_22 (zk_4p ho)) rfl g3 dX4_first_26 ?_
        refine z_get (ci := 2) (C := RX2) (T := TX2) (N := 4) hx hb hts iX4_first_X2 hown hK hP (zk_lt (zk_22p (zk_4p ho) g3) (by decide)) (zx_2 (zk_22p (zk_4p ho) g3)) rfl 1 (by decide) kX4_first_f57 rfl (v := .int (σ ((o + 3) + (l1 : Int32).toNatClampNeg) 1)) rfl dX4_first_27 ?_
        refine lv_icmp_ge (tgt := 35) hx hb dX4_first_30 (by decide) (fun b4 => ?_) (fun b4 => ?_)
        · have hF := zif_t b4 hF
          refine lv_iinc (v := (l2 + (1 : Int32))) (lv' := [(2, .int (l2 + (1 : Int32))), (0, .ref (ad o)), (1, .int l1)]) hx hb dX4_first_35 hl (k := 2) rfl rfl (by decide) rfl (fun ls hl => ?_)
          refine lv_goto (tgt := 4) hx hb dX4_first_38 (by decide) ?_
          exact ih4 σ l1 (l2 + (1 : Int32)) _ _ _ hF hP hD hS (lv_sub hl [1, 2, 0] rfl)
        · have hF := zif_f b4 hF
          refine lv_iload_n hx hb dX4_first_33 rfl (lv_at hl 2 rfl) ?_
          refine lv_istore_n (lv' := [(1, .int l2), (0, .ref (ad o)), (2, .int l2)]) hx hb dX4_first_34 rfl hl (by decide) rfl (fun ls hl => ?_)
          refine lv_iinc (v := (l2 + (1 : Int32))) (lv' := [(2, .int (l2 + (1 : Int32))), (1, .int l2), (0, .ref (ad o))]) hx hb dX4_first_35 hl (k := 2) rfl rfl (by decide) rfl (fun ls hl => ?_)
          refine lv_goto (tgt := 4) hx hb dX4_first_38 (by decide) ?_
          exact ih4 σ l2 (l2 + (1 : Int32)) _ _ _ hF hP hD hS (lv_sub hl [2, 1, 0] rfl)
  unfold FX4_first at hF
  refine lv_iconst (v := (0 : Int32)) hx hb dX4_first_0 (by decide) ?_
  refine lv_istore_n (lv' := [(1, .int (0 : Int32)), (0, .ref (ad o))]) hx hb dX4_first_1 rfl hl (by decide) rfl (fun ls hl => ?_)
  refine lv_iconst (v := (1 : Int32)) hx hb dX4_first_2 (by decide) ?_
  refine lv_istore_n (lv' := [(2, .int (1 : Int32)), (1, .int (0 : Int32)), (0, .ref (ad o))]) hx hb dX4_first_3 rfl hl (by decide) rfl (fun ls hl => ?_)
  exact hB4 n σ (0 : Int32) (1 : Int32) _ _ _ hF hP hD hS (lv_sub hl [2, 1, 0] rfl)
theorem kX2_saying_f9 : Cond.fieldLink RX2 9 "LeastAsked$Person" "kind" "I" ∈ wsX2_saying := by decide +kernel
theorem kX2_saying_f21 : Cond.fieldLink RX2 21 "LeastAsked$Person" "wit" "I" ∈ wsX2_saying := by decide +kernel
theorem iX2_saying_X2 : ∀ w ∈ u_ws RX2 TX2 4, w ∈ wsX2_saying := fun _ h => List.mem_cons_of_mem _ (List.mem_append_right _ h)
set_option maxHeartbeats 4000000 in
set_option maxRecDepth 100000 in
theorem CX2_saying (l : Launch) (D : va_G) (cI cS cP : ClassId) (ad : Nat → Nat) (A : Nat → Prop) (n : Nat) (σ σ' : zMem) (r0 : Int32) (o : Nat) (ho : zk o = 2) (hF : FX2_saying n o σ = some (r0, σ')) : Met l yX2_saying wsX2_saying ({ frames := 0, cells := 0, slots := 0, locals := 0 } : Room) (va_Pc [.ref (ad o)] (zB (zx cI cS cP ad) 41 ad D (zty cI cS cP) A σ)) (va_Qi (fun r u => r = r0 ∧ u = σ') (zB (zx cI cS cP ad) 41 ad D (zty cI cS cP) A) A) 0 0 A := by
  refine Met.ofW (cc := cX2_saying) (maxL := 1) (ret := (some .int)) (by decide) rfl ?_
  intro p e s m args below meth c s₁ B hml hv
  obtain ⟨rfl, hP, hK, hD, hN⟩ := hv
  have hx := B.exec
  have hb := B.bytes
  have hr := B.returns
  have hts := atoms_spec (ws := wsX2_saying) B.pre
  have hown : s.vm.findClass RX2 = some m.cls := findClass_of_methodNamed B.named
  have hlocks := B.notSynchronized
  have hS : va_S A s.heap s.heap [] := va_S.rf
  have hl := lv_entry ([.ref (ad o)]) (n := 1) (Nat.le_of_ble_eq_true rfl)
  rw [lg_entry_eq]
  generalize (lg_sl ([.ref (ad o)]) ++ List.replicate (1 - (lg_sl ([.ref (ad o)])).length) Slot.unset).toArray = ls at hl ⊢
  have hl : lv_has ls 1 [(0, .ref (ad o))] := hl
  clear B
  unfold FX2_saying at hF
  refine lv_aload_n hx hb dX2_saying_0 rfl (lv_at hl 0 rfl) ?_
  refine z_get (ci := 2) (C := RX2) (T := TX2) (N := 4) hx hb hts iX2_saying_X2 hown hK hP (zk_lt ho (by decide)) (zx_2 ho) rfl 0 (by decide) kX2_saying_f9 rfl (v := .int (σ o 0)) rfl dX2_saying_1 ?_
  refine lv_iconst (v := (1 : Int32)) hx hb dX2_saying_4 (by decide) ?_
  refine lv_icmp_ne (tgt := 15) hx hb dX2_saying_5 (by decide) (fun b1 => ?_) (fun b1 => ?_)
  · have hF := zif_f b1 hF
    refine lv_aload_n hx hb dX2_saying_15 rfl (lv_at hl 0 rfl) ?_
    refine z_get (ci := 2) (C := RX2) (T := TX2) (N := 4) hx hb hts iX2_saying_X2 hown hK hP (zk_lt ho (by decide)) (zx_2 ho) rfl 0 (by decide) kX2_saying_f9 rfl (v := .int (σ o 0)) rfl dX2_saying_16 ?_
    refine lv_iconst (v := (2 : Int32)) hx hb dX2_saying_19 (by decide) ?_
    refine lv_icmp_ne (tgt := 32) hx hb dX2_saying_20 (by decide) (fun b2 => ?_) (fun b2 => ?_)
    · have hF := zif_f b2 hF
      refine lv_aload_n hx hb dX2_saying_32 rfl (lv_at hl 0 rfl) ?_
      refine z_get (ci := 2) (C := RX2) (T := TX2) (N := 4) hx hb hts iX2_saying_X2 hown hK hP (zk_lt ho (by decide)) (zx_2 ho) rfl 3 (by decide) kX2_saying_f21 rfl (v := .int (σ o 3)) rfl dX2_saying_33 ?_
      exact z_iret hx hb hr hlocks hN hK hP hD hS hF dX2_saying_36
    · have hF := zif_t b2 hF
      refine lv_iconst (v := (2 : Int32)) hx hb dX2_saying_23 (by decide) ?_
      refine lv_aload_n hx hb dX2_saying_24 rfl (lv_at hl 0 rfl) ?_
      refine z_get (ci := 2) (C := RX2) (T := TX2) (N := 4) hx hb hts iX2_saying_X2 hown hK hP (zk_lt ho (by decide)) (zx_2 ho) rfl 3 (by decide) kX2_saying_f21 rfl (v := .int (σ o 3)) rfl dX2_saying_25 ?_
      refine lv_imul hx hb dX2_saying_28 ?_
      refine lv_goto (tgt := 36) hx hb dX2_saying_29 (by decide) ?_
      exact z_iret hx hb hr hlocks hN hK hP hD hS hF dX2_saying_36
  · have hF := zif_t b1 hF
    refine lv_aload_n hx hb dX2_saying_8 rfl (lv_at hl 0 rfl) ?_
    refine z_get (ci := 2) (C := RX2) (T := TX2) (N := 4) hx hb hts iX2_saying_X2 hown hK hP (zk_lt ho (by decide)) (zx_2 ho) rfl 3 (by decide) kX2_saying_f21 rfl (v := .int (σ o 3)) rfl dX2_saying_9 ?_
    refine lv_iconst (v := (1 : Int32)) hx hb dX2_saying_12 (by decide) ?_
    refine lv_iadd hx hb dX2_saying_13 ?_
    exact z_iret hx hb hr hlocks hN hK hP hD hS hF dX2_saying_14
theorem kX2_isKnowing_f18 : Cond.fieldLink RX2 18 "LeastAsked$Person" "knows" "I" ∈ wsX2_isKnowing := by decide +kernel
theorem iX2_isKnowing_X2 : ∀ w ∈ u_ws RX2 TX2 4, w ∈ wsX2_isKnowing := fun _ h => List.mem_cons_of_mem _ (List.mem_append_right _ h)
set_option maxHeartbeats 4000000 in
set_option maxRecDepth 100000 in
theorem CX2_isKnowing (l : Launch) (D : va_G) (cI cS cP : ClassId) (ad : Nat → Nat) (A : Nat → Prop) (n : Nat) (σ σ' : zMem) (r0 : Int32) (o : Nat) (p1 : Int32) (ho : zk o = 2) (hF : FX2_isKnowing n o σ p1 = some (r0, σ')) : Met l yX2_isKnowing wsX2_isKnowing ({ frames := 0, cells := 0, slots := 0, locals := 0 } : Room) (va_Pc [.ref (ad o), .int p1] (zB (zx cI cS cP ad) 41 ad D (zty cI cS cP) A σ)) (va_Qi (fun r u => r = r0 ∧ u = σ') (zB (zx cI cS cP ad) 41 ad D (zty cI cS cP) A) A) 0 0 A := by
  refine Met.ofW (cc := cX2_isKnowing) (maxL := 2) (ret := (some .boolean)) (by decide) rfl ?_
  intro p e s m args below meth c s₁ B hml hv
  obtain ⟨rfl, hP, hK, hD, hN⟩ := hv
  have hx := B.exec
  have hb := B.bytes
  have hr := B.returns
  have hts := atoms_spec (ws := wsX2_isKnowing) B.pre
  have hown : s.vm.findClass RX2 = some m.cls := findClass_of_methodNamed B.named
  have hlocks := B.notSynchronized
  have hS : va_S A s.heap s.heap [] := va_S.rf
  have hl := lv_entry ([.ref (ad o), .int p1]) (n := 2) (Nat.le_of_ble_eq_true rfl)
  rw [lg_entry_eq]
  generalize (lg_sl ([.ref (ad o), .int p1]) ++ List.replicate (2 - (lg_sl ([.ref (ad o), .int p1])).length) Slot.unset).toArray = ls at hl ⊢
  have hl : lv_has ls 2 [(0, .ref (ad o)), (1, .int p1)] := hl
  clear B
  unfold FX2_isKnowing at hF
  refine lv_aload_n hx hb dX2_isKnowing_0 rfl (lv_at hl 0 rfl) ?_
  refine z_get (ci := 2) (C := RX2) (T := TX2) (N := 4) hx hb hts iX2_isKnowing_X2 hown hK hP (zk_lt ho (by decide)) (zx_2 ho) rfl 2 (by decide) kX2_isKnowing_f18 rfl (v := .int (σ o 2)) rfl dX2_isKnowing_1 ?_
  refine lv_iload_n hx hb dX2_isKnowing_4 rfl (lv_at hl 1 rfl) ?_
  refine lv_ishr hx hb dX2_isKnowing_5 ?_
  refine lv_iconst (v := (1 : Int32)) hx hb dX2_isKnowing_6 (by decide) ?_
  refine lv_iand hx hb dX2_isKnowing_7 ?_
  refine lv_iconst (v := (1 : Int32)) hx hb dX2_isKnowing_8 (by decide) ?_
  refine lv_icmp_ne (tgt := 16) hx hb dX2_isKnowing_9 (by decide) (fun b1 => ?_) (fun b1 => ?_)
  · have hF := zif_f b1 hF
    refine lv_iconst (v := (0 : Int32)) hx hb dX2_isKnowing_16 (by decide) ?_
    exact z_zret hx hb hr hlocks (Or.inl rfl) hN hK hP hD hS hF dX2_isKnowing_17
  · have hF := zif_t b1 hF
    refine lv_iconst (v := (1 : Int32)) hx hb dX2_isKnowing_12 (by decide) ?_
    refine lv_goto (tgt := 17) hx hb dX2_isKnowing_13 (by decide) ?_
    exact z_zret hx hb hr hlocks (Or.inr rfl) hN hK hP hD hS hF dX2_isKnowing_17
theorem kX0_begin_f9 : Cond.fieldLink RX0 9 "LeastAsked$Bodies" "left" "I" ∈ wsX0_begin := by decide +kernel
theorem iX0_begin_X0 : ∀ w ∈ u_ws RX0 TX0 1, w ∈ wsX0_begin := fun _ h => List.mem_cons_of_mem _ (List.mem_append_right _ h)
set_option maxHeartbeats 4000000 in
set_option maxRecDepth 100000 in
theorem CX0_begin (l : Launch) (D : va_G) (cI cS cP : ClassId) (ad : Nat → Nat) (A : Nat → Prop) (n : Nat) (σ σ' : zMem) (r0 : Int32) (o : Nat) (p1 : Int32) (ho : zk o = 0) (hF : FX0_begin n o σ p1 = some (r0, σ')) : Met l yX0_begin wsX0_begin ({ frames := 0, cells := 0, slots := 0, locals := 0 } : Room) (va_Pc [.ref (ad o), .int p1] (zB (zx cI cS cP ad) 41 ad D (zty cI cS cP) A σ)) (va_Qv (fun u => u = σ') (zB (zx cI cS cP ad) 41 ad D (zty cI cS cP) A) A) 0 0 A := by
  refine Met.ofW (cc := cX0_begin) (maxL := 2) (ret := none) (by decide) rfl ?_
  intro p e s m args below meth c s₁ B hml hv
  obtain ⟨rfl, hP, hK, hD, hN⟩ := hv
  have hx := B.exec
  have hb := B.bytes
  have hr := B.returns
  have hts := atoms_spec (ws := wsX0_begin) B.pre
  have hown : s.vm.findClass RX0 = some m.cls := findClass_of_methodNamed B.named
  have hlocks := B.notSynchronized
  have hS : va_S A s.heap s.heap [] := va_S.rf
  have hl := lv_entry ([.ref (ad o), .int p1]) (n := 2) (Nat.le_of_ble_eq_true rfl)
  rw [lg_entry_eq]
  generalize (lg_sl ([.ref (ad o), .int p1]) ++ List.replicate (2 - (lg_sl ([.ref (ad o), .int p1])).length) Slot.unset).toArray = ls at hl ⊢
  have hl : lv_has ls 2 [(0, .ref (ad o)), (1, .int p1)] := hl
  clear B
  unfold FX0_begin at hF
  refine lv_aload_n hx hb dX0_begin_0 rfl (lv_at hl 0 rfl) ?_
  refine lv_bipush (v := (31 : Int32)) hx hb dX0_begin_1 (by decide) ?_
  refine lv_aload_n hx hb dX0_begin_3 rfl (lv_at hl 0 rfl) ?_
  refine z_get (ci := 0) (C := RX0) (T := TX0) (N := 1) hx hb hts iX0_begin_X0 hown hK hP (zk_lt ho (by decide)) (zx_0 ho) rfl 0 (by decide) kX0_begin_f9 rfl (v := .int (σ o 0)) rfl dX0_begin_4 ?_
  refine lv_imul hx hb dX0_begin_7 ?_
  refine lv_iload_n hx hb dX0_begin_8 rfl (lv_at hl 1 rfl) ?_
  refine lv_iadd hx hb dX0_begin_9 ?_
  obtain ⟨σ1, eσ1, hF⟩ := zlet_inv hF
  refine z_put (ci := 0) (C := RX0) (T := TX0) (N := 1) hx hb hts iX0_begin_X0 tyX0 tyX0_ok nmX0 hown hK hP hD hS (zk_lt ho (by decide)) (zx_0 ho) rfl 0 (by decide) kX0_begin_f9 rfl rfl rfl rfl (Nat.le_of_ble_eq_true rfl) (zx_0 ho) dX0_begin_10 (fun H locs hP hD hS => ?_)
  have hP : va_P D vwCl (zW (zx cI cS cP ad) 41 ad σ1) H := by rw [eσ1]; exact hP
  have hD : va_D A (zW (zx cI cS cP ad) 41 ad σ1) := by rw [eσ1]; exact hD
  exact z_vret hx hb hr hlocks hN hK hP hD hS hF dX0_begin_13
theorem kX9_failed_f69 : Cond.fieldLink RX9 69 "LeastAsked" "lastFault" "I" ∈ wsX9_failed := by decide +kernel
theorem iX9_failed_X9 : ∀ w ∈ u_ws RX9 TX9 11, w ∈ wsX9_failed := fun _ h => List.mem_cons_of_mem _ (List.mem_append_right _ h)
set_option maxHeartbeats 4000000 in
set_option maxRecDepth 100000 in
theorem CX9_failed (l : Launch) (D : va_G) (cI cS cP : ClassId) (ad : Nat → Nat) (A : Nat → Prop) (n : Nat) (σ σ' : zMem) (r0 : Int32) (p1 : Int32) (hF : FX9_failed n σ p1 = some (r0, σ')) : Met l yX9_failed wsX9_failed ({ frames := 0, cells := 0, slots := 0, locals := 0 } : Room) (va_Pc [.ref (ad 0), .int p1] (zB (zx cI cS cP ad) 41 ad D (zty cI cS cP) A σ)) (va_Qi (fun r u => r = r0 ∧ u = σ') (zB (zx cI cS cP ad) 41 ad D (zty cI cS cP) A) A) 0 0 A := by
  refine Met.ofW (cc := cX9_failed) (maxL := 2) (ret := (some .int)) (by decide) rfl ?_
  intro p e s m args below meth c s₁ B hml hv
  obtain ⟨rfl, hP, hK, hD, hN⟩ := hv
  have hx := B.exec
  have hb := B.bytes
  have hr := B.returns
  have hts := atoms_spec (ws := wsX9_failed) B.pre
  have hown : s.vm.findClass RX9 = some m.cls := findClass_of_methodNamed B.named
  have hlocks := B.notSynchronized
  have hS : va_S A s.heap s.heap [] := va_S.rf
  have hl := lv_entry ([.ref (ad 0), .int p1]) (n := 2) (Nat.le_of_ble_eq_true rfl)
  rw [lg_entry_eq]
  generalize (lg_sl ([.ref (ad 0), .int p1]) ++ List.replicate (2 - (lg_sl ([.ref (ad 0), .int p1])).length) Slot.unset).toArray = ls at hl ⊢
  have hl : lv_has ls 2 [(0, .ref (ad 0)), (1, .int p1)] := hl
  clear B
  unfold FX9_failed at hF
  refine lv_aload_n hx hb dX9_failed_0 rfl (lv_at hl 0 rfl) ?_
  refine lv_iload_n hx hb dX9_failed_1 rfl (lv_at hl 1 rfl) ?_
  obtain ⟨σ1, eσ1, hF⟩ := zlet_inv hF
  refine z_put (ci := 8) (C := RX9) (T := TX9) (N := 11) hx hb hts iX9_failed_X9 tyX9 tyX9_ok nmX9 hown hK hP hD hS (zk_lt (rfl : zk 0 = 8) (by decide)) (zx_8 (rfl : zk 0 = 8)) rfl 10 (by decide) kX9_failed_f69 rfl rfl rfl rfl (Nat.le_of_ble_eq_true rfl) (zx_8 (rfl : zk 0 = 8)) dX9_failed_2 (fun H locs hP hD hS => ?_)
  have hP : va_P D vwCl (zW (zx cI cS cP ad) 41 ad σ1) H := by rw [eσ1]; exact hP
  have hD : va_D A (zW (zx cI cS cP ad) 41 ad σ1) := by rw [eσ1]; exact hD
  refine lv_bipush (v := (-10 : Int32)) hx hb dX9_failed_5 (by decide) ?_
  refine lv_iload_n hx hb dX9_failed_7 rfl (lv_at hl 1 rfl) ?_
  refine lv_isub hx hb dX9_failed_8 ?_
  exact z_iret hx hb hr hlocks hN hK hP hD hS hF dX9_failed_9
set_option maxHeartbeats 4000000 in
set_option maxRecDepth 100000 in
theorem CX10_within (l : Launch) (D : va_G) (cI cS cP : ClassId) (ad : Nat → Nat) (A : Nat → Prop) (n : Nat) (σ σ' : zMem) (r0 : Int32) (p1 : Int32) (p2 : Int32) (p3 : Int32) (hF : FX10_within n σ p1 p2 p3 = some (r0, σ')) : Met l yX10_within wsX10_within ({ frames := 0, cells := 0, slots := 0, locals := 0 } : Room) (va_Pc [.int p1, .int p2, .int p3] (zB (zm cI ad) 20 ad D (zty cI cS cP) A σ)) (va_Qi (fun r u => r = r0 ∧ u = σ') (zB (zm cI ad) 20 ad D (zty cI cS cP) A) A) 0 0 A := by
  refine Met.ofW (cc := cX10_within) (maxL := 3) (ret := (some .boolean)) (by decide) rfl ?_
  intro p e s m args below meth c s₁ B hml hv
  obtain ⟨rfl, hP, hK, hD, hN⟩ := hv
  have hx := B.exec
  have hb := B.bytes
  have hr := B.returns
  have hts := atoms_spec (ws := wsX10_within) B.pre
  have hown : s.vm.findClass RX10 = some m.cls := findClass_of_methodNamed B.named
  have hlocks := B.notSynchronized
  have hS : va_S A s.heap s.heap [] := va_S.rf
  have hl := lv_entry ([.int p1, .int p2, .int p3]) (n := 3) (Nat.le_of_ble_eq_true rfl)
  rw [lg_entry_eq]
  generalize (lg_sl ([.int p1, .int p2, .int p3]) ++ List.replicate (3 - (lg_sl ([.int p1, .int p2, .int p3])).length) Slot.unset).toArray = ls at hl ⊢
  have hl : lv_has ls 3 [(0, .int p1), (1, .int p2), (2, .int p3)] := hl
  clear B
  unfold FX10_within at hF
  refine lv_iload_n hx hb dX10_within_0 rfl (lv_at hl 0 rfl) ?_
  refine lv_iload_n hx hb dX10_within_1 rfl (lv_at hl 1 rfl) ?_
  refine lv_icmp_lt (tgt := 14) hx hb dX10_within_2 (by decide) (fun b1 => ?_) (fun b1 => ?_)
  · have hF := zif_t b1 hF
    refine lv_iconst (v := (0 : Int32)) hx hb dX10_within_14 (by decide) ?_
    exact z_zret hx hb hr hlocks (Or.inl rfl) hN hK hP hD hS hF dX10_within_15
  · have hF := zif_f b1 hF
    refine lv_iload_n hx hb dX10_within_5 rfl (lv_at hl 0 rfl) ?_
    refine lv_iload_n hx hb dX10_within_6 rfl (lv_at hl 2 rfl) ?_
    refine lv_icmp_gt (tgt := 14) hx hb dX10_within_7 (by decide) (fun b2 => ?_) (fun b2 => ?_)
    · have hF := zif_t b2 hF
      refine lv_iconst (v := (0 : Int32)) hx hb dX10_within_14 (by decide) ?_
      exact z_zret hx hb hr hlocks (Or.inl rfl) hN hK hP hD hS hF dX10_within_15
    · have hF := zif_f b2 hF
      refine lv_iconst (v := (1 : Int32)) hx hb dX10_within_10 (by decide) ?_
      refine lv_goto (tgt := 15) hx hb dX10_within_11 (by decide) ?_
      exact z_zret hx hb hr hlocks (Or.inr rfl) hN hK hP hD hS hF dX10_within_15
theorem kX10_firstOf_f77 : Cond.fieldLink RX10 77 "LeastAskedModel" "people" "I" ∈ wsX10_firstOf := by decide +kernel
theorem kX10_firstOf_f25 : Cond.fieldLink RX10 25 "LeastAskedModel" "asked" "[I" ∈ wsX10_firstOf := by decide +kernel
theorem iX10_firstOf_X10 : ∀ w ∈ u_ws RX10 TX10 32, w ∈ wsX10_firstOf := fun _ h => List.mem_cons_of_mem _ (List.mem_append_right _ h)
set_option maxHeartbeats 4000000 in
set_option maxRecDepth 100000 in
theorem CX10_firstOf (l : Launch) (D : va_G) (cI cS cP : ClassId) (ad : Nat → Nat) (A : Nat → Prop) (n : Nat) (σ σ' : zMem) (r0 : Int32) (hF : FX10_firstOf n σ = some (r0, σ')) : Met l yX10_firstOf wsX10_firstOf ({ frames := 0, cells := 0, slots := 0, locals := 0 } : Room) (va_Pc [.ref (ad 0)] (zB (zm cI ad) 20 ad D (zty cI cS cP) A σ)) (va_Qi (fun r u => r = r0 ∧ u = σ') (zB (zm cI ad) 20 ad D (zty cI cS cP) A) A) 0 0 A := by
  refine Met.ofW (cc := cX10_firstOf) (maxL := 3) (ret := (some .int)) (by decide) rfl ?_
  intro p e s m args below meth c s₁ B hml hv
  obtain ⟨rfl, hP, hK, hD, hN⟩ := hv
  have hx := B.exec
  have hb := B.bytes
  have hr := B.returns
  have hts := atoms_spec (ws := wsX10_firstOf) B.pre
  have hown : s.vm.findClass RX10 = some m.cls := findClass_of_methodNamed B.named
  have hlocks := B.notSynchronized
  have hS : va_S A s.heap s.heap [] := va_S.rf
  have hl := lv_entry ([.ref (ad 0)]) (n := 3) (Nat.le_of_ble_eq_true rfl)
  rw [lg_entry_eq]
  generalize (lg_sl ([.ref (ad 0)]) ++ List.replicate (3 - (lg_sl ([.ref (ad 0)])).length) Slot.unset).toArray = ls at hl ⊢
  have hl : lv_has ls 3 [(0, .ref (ad 0))] := hl
  clear B
  have hB4 : ∀ (f4 : Nat) (σ : zMem) (l1 : Int32) (l2 : Int32) (H : Heap) (locs : List Loc) (ls : Array Slot), zlp (LX10_firstOf_4 n) f4 (σ, l1, l2) = some (r0, σ') → va_P D vwCl (zW (zm cI ad) 20 ad σ) H → va_D A (zW (zm cI ad) 20 ad σ) → va_S A s.heap H locs → lv_has ls 3 [(0, .ref (ad 0)), (1, .int l1), (2, .int l2)] → W p l e (headSpec wsX10_firstOf ({ frames := 0, cells := 0, slots := 0, locals := 0 } : Room)).room s m ([.ref (ad 0)] : List Value).toArray below meth c H locs 0 0 (MQ below (va_Qi (fun r u => r = r0 ∧ u = σ') (zB (zm cI ad) 20 ad D (zty cI cS cP) A) A) ([.ref (ad 0)] : List Value).toArray s 0 0 A) (F0 m 4 ls []) := by
    intro f4
    induction f4 with
    | zero => intro σ l1 l2 H locs ls hF hP hD hS hl; exact (zlp_0 hF).elim
    | succ f4 ih4 =>
      intro σ l1 l2 H locs ls hF hP hD hS hl
      have hF : LBX10_firstOf_4 n   (zlp (LX10_firstOf_4 n) f4) σ l1 l2 = some (r0, σ') := hF
      unfold LBX10_firstOf_4 at hF
      refine lv_iload_n hx hb dX10_firstOf_4 rfl (lv_at hl 2 rfl) ?_
      refine lv_aload_n hx hb dX10_firstOf_5 rfl (lv_at hl 0 rfl) ?_
      refine z_get (ci := 9) (C := RX10) (T := TX10) (N := 32) hx hb hts iX10_firstOf_X10 hown hK hP (by decide) zm_0 rfl 5 (by decide) kX10_firstOf_f77 rfl (v := .int (σ 0 5)) rfl dX10_firstOf_6 ?_
      refine lv_icmp_ge (tgt := 39) hx hb dX10_firstOf_9 (by decide) (fun b1 => ?_) (fun b1 => ?_)
      · have hF := zif_t b1 hF
        refine lv_iload_n hx hb dX10_firstOf_39 rfl (lv_at hl 1 rfl) ?_
        exact z_iret hx hb hr hlocks hN hK hP hD hS hF dX10_firstOf_40
      · have hF := zif_f b1 hF
        refine lv_aload_n hx hb dX10_firstOf_12 rfl (lv_at hl 0 rfl) ?_
        refine z_get (ci := 9) (C := RX10) (T := TX10) (N := 32) hx hb hts iX10_firstOf_X10 hown hK hP (by decide) zm_0 rfl 10 (by decide) kX10_firstOf_f25 rfl (v := .ref (ad 6)) rfl dX10_firstOf_13 ?_
        refine lv_iload_n hx hb dX10_firstOf_16 rfl (lv_at hl 2 rfl) ?_
        obtain ⟨g2, hF⟩ := zgd_inv hF
        refine z_iald hx hb hK hP (by decide) (zm_a (n := 6) (by decide)) rfl g2 dX10_firstOf_17 ?_
        refine lv_aload_n hx hb dX10_firstOf_18 rfl (lv_at hl 0 rfl) ?_
        refine z_get (ci := 9) (C := RX10) (T := TX10) (N := 32) hx hb hts iX10_firstOf_X10 hown hK hP (by decide) zm_0 rfl 10 (by decide) kX10_firstOf_f25 rfl (v := .ref (ad 6)) rfl dX10_firstOf_19 ?_
        refine lv_iload_n hx hb dX10_firstOf_22 rfl (lv_at hl 1 rfl) ?_
        obtain ⟨g3, hF⟩ := zgd_inv hF
        refine z_iald hx hb hK hP (by decide) (zm_a (n := 6) (by decide)) rfl g3 dX10_firstOf_23 ?_
        refine lv_icmp_ge (tgt := 31) hx hb dX10_firstOf_24 (by decide) (fun b4 => ?_) (fun b4 => ?_)
        · have hF := zif_t b4 hF
          refine lv_iload_n hx hb dX10_firstOf_31 rfl (lv_at hl 1 rfl) ?_
          refine lv_istore_n (lv' := [(1, .int l1), (0, .ref (ad 0)), (2, .int l2)]) hx hb dX10_firstOf_32 rfl hl (by decide) rfl (fun ls hl => ?_)
          refine lv_iinc (v := (l2 + (1 : Int32))) (lv' := [(2, .int (l2 + (1 : Int32))), (1, .int l1), (0, .ref (ad 0))]) hx hb dX10_firstOf_33 hl (k := 2) rfl rfl (by decide) rfl (fun ls hl => ?_)
          refine lv_goto (tgt := 4) hx hb dX10_firstOf_36 (by decide) ?_
          exact ih4 σ l1 (l2 + (1 : Int32)) _ _ _ hF hP hD hS (lv_sub hl [2, 1, 0] rfl)
        · have hF := zif_f b4 hF
          refine lv_iload_n hx hb dX10_firstOf_27 rfl (lv_at hl 2 rfl) ?_
          refine lv_goto (tgt := 32) hx hb dX10_firstOf_28 (by decide) ?_
          refine lv_istore_n (lv' := [(1, .int l2), (0, .ref (ad 0)), (2, .int l2)]) hx hb dX10_firstOf_32 rfl hl (by decide) rfl (fun ls hl => ?_)
          refine lv_iinc (v := (l2 + (1 : Int32))) (lv' := [(2, .int (l2 + (1 : Int32))), (1, .int l2), (0, .ref (ad 0))]) hx hb dX10_firstOf_33 hl (k := 2) rfl rfl (by decide) rfl (fun ls hl => ?_)
          refine lv_goto (tgt := 4) hx hb dX10_firstOf_36 (by decide) ?_
          exact ih4 σ l2 (l2 + (1 : Int32)) _ _ _ hF hP hD hS (lv_sub hl [2, 1, 0] rfl)
  unfold FX10_firstOf at hF
  refine lv_iconst (v := (0 : Int32)) hx hb dX10_firstOf_0 (by decide) ?_
  refine lv_istore_n (lv' := [(1, .int (0 : Int32)), (0, .ref (ad 0))]) hx hb dX10_firstOf_1 rfl hl (by decide) rfl (fun ls hl => ?_)
  refine lv_iconst (v := (1 : Int32)) hx hb dX10_firstOf_2 (by decide) ?_
  refine lv_istore_n (lv' := [(2, .int (1 : Int32)), (1, .int (0 : Int32)), (0, .ref (ad 0))]) hx hb dX10_firstOf_3 rfl hl (by decide) rfl (fun ls hl => ?_)
  exact hB4 n σ (0 : Int32) (1 : Int32) _ _ _ hF hP hD hS (lv_sub hl [2, 1, 0] rfl)
theorem kX10_fails_f67 : Cond.fieldLink RX10 67 "LeastAskedModel" "fault" "I" ∈ wsX10_fails := by decide +kernel
theorem iX10_fails_X10 : ∀ w ∈ u_ws RX10 TX10 32, w ∈ wsX10_fails := fun _ h => List.mem_cons_of_mem _ (List.mem_append_right _ h)
set_option maxHeartbeats 4000000 in
set_option maxRecDepth 100000 in
theorem CX10_fails (l : Launch) (D : va_G) (cI cS cP : ClassId) (ad : Nat → Nat) (A : Nat → Prop) (n : Nat) (σ σ' : zMem) (r0 : Int32) (p1 : Int32) (hF : FX10_fails n σ p1 = some (r0, σ')) : Met l yX10_fails wsX10_fails ({ frames := 0, cells := 0, slots := 0, locals := 0 } : Room) (va_Pc [.ref (ad 0), .int p1] (zB (zm cI ad) 20 ad D (zty cI cS cP) A σ)) (va_Qi (fun r u => r = r0 ∧ u = σ') (zB (zm cI ad) 20 ad D (zty cI cS cP) A) A) 0 0 A := by
  refine Met.ofW (cc := cX10_fails) (maxL := 2) (ret := (some .int)) (by decide) rfl ?_
  intro p e s m args below meth c s₁ B hml hv
  obtain ⟨rfl, hP, hK, hD, hN⟩ := hv
  have hx := B.exec
  have hb := B.bytes
  have hr := B.returns
  have hts := atoms_spec (ws := wsX10_fails) B.pre
  have hown : s.vm.findClass RX10 = some m.cls := findClass_of_methodNamed B.named
  have hlocks := B.notSynchronized
  have hS : va_S A s.heap s.heap [] := va_S.rf
  have hl := lv_entry ([.ref (ad 0), .int p1]) (n := 2) (Nat.le_of_ble_eq_true rfl)
  rw [lg_entry_eq]
  generalize (lg_sl ([.ref (ad 0), .int p1]) ++ List.replicate (2 - (lg_sl ([.ref (ad 0), .int p1])).length) Slot.unset).toArray = ls at hl ⊢
  have hl : lv_has ls 2 [(0, .ref (ad 0)), (1, .int p1)] := hl
  clear B
  unfold FX10_fails at hF
  refine lv_aload_n hx hb dX10_fails_0 rfl (lv_at hl 0 rfl) ?_
  refine lv_iload_n hx hb dX10_fails_1 rfl (lv_at hl 1 rfl) ?_
  obtain ⟨σ1, eσ1, hF⟩ := zlet_inv hF
  refine z_put (ci := 9) (C := RX10) (T := TX10) (N := 32) hx hb hts iX10_fails_X10 tyX10 tyX10_ok nmX10 hown hK hP hD hS (by decide) zm_0 rfl 0 (by decide) kX10_fails_f67 rfl rfl rfl rfl (Nat.le_of_ble_eq_true rfl) zm_0 dX10_fails_2 (fun H locs hP hD hS => ?_)
  have hP : va_P D vwCl (zW (zm cI ad) 20 ad σ1) H := by rw [eσ1]; exact hP
  have hD : va_D A (zW (zm cI ad) 20 ad σ1) := by rw [eσ1]; exact hD
  refine lv_bipush (v := (-10 : Int32)) hx hb dX10_fails_5 (by decide) ?_
  refine lv_iload_n hx hb dX10_fails_7 rfl (lv_at hl 1 rfl) ?_
  refine lv_isub hx hb dX10_fails_8 ?_
  exact z_iret hx hb hr hlocks hN hK hP hD hS hF dX10_fails_9
