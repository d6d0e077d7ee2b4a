/-! ===== texts: the reference reads ===== -/
theorem mK.o3 {σ0 σ : zMem} (h : mK σ0 σ) : σ 3 = σ0 3 := h.2 3 (by omega)
theorem isSign_c {n fs len pl : Nat} {cd : Nat → Int32} {σ0 σ : zMem} {x : Int32} (hE : fs + len ≤ 240) (hcd : ∀ q, q < len → σ0 3 (fs + q) = cd q) (hK : mK σ0 σ) (h13 : σ 0 13 = nI (fs + pl)) (hpl : pl ≤ len) : (pl < len ∧ cd pl = x ∧ FX10_isSign n σ (nI (fs + len)) x = some (1, zst σ 0 13 (nI (fs + (pl + 1))))) ∨ (¬ (pl < len ∧ cd pl = x) ∧ FX10_isSign n σ (nI (fs + len)) x = some (0, σ)) := by
  unfold FX10_isSign
  rw [h13, hK.o3]
  by_cases e : pl < len
  · rw [zif_neg (nI_ge (by omega) (by omega)), zgd_in (show fs + pl < 240 by omega) (by decide), zcl (by omega), hcd pl e, nI_1]
    by_cases e2 : cd pl = x
    · exact Or.inl ⟨e, e2, by rw [zif_pos e2, zlet_s, Nat.add_assoc]⟩
    · exact Or.inr ⟨fun z => e2 z.2, by rw [zif_neg e2]⟩
  · exact Or.inr ⟨fun z => e z.1, by rw [zif_pos (nI_le (by omega) (by omega))]⟩
theorem digit_c {n fs len pl m : Nat} {cd : Nat → Int32} {σ0 σ : zMem} (hE : fs + len ≤ 240) (hcd : ∀ q, q < len → σ0 3 (fs + q) = cd q) (hK : mK σ0 σ) (h13 : σ 0 13 = nI (fs + pl)) (hpl : pl ≤ len) (hm : m ≤ 9) : (pl < len ∧ dgP (m + 1) (cd pl) ∧ FX10_digit n σ (nI (fs + len)) (nI m) = some (nI (dgv (cd pl)), zst σ 0 13 (nI (fs + (pl + 1))))) ∨ (¬ (pl < len ∧ dgP (m + 1) (cd pl)) ∧ FX10_digit n σ (nI (fs + len)) (nI m) = some (-9, σ)) := by
  unfold FX10_digit
  rw [h13, hK.o3]
  by_cases e : pl < len
  · rw [zif_neg (nI_ge (by omega) (by omega)), zgd_in (show fs + pl < 240 by omega) (by decide), zcl (by omega), hcd pl e, show (48 : Int32) + nI m = nI (48 + m) from nI_add 48 m]
    rcases dg_cs (cd pl) (show m + 1 ≤ 10 by omega) with h | h
    · have hd := dgv_of (by omega) h
      refine Or.inl ⟨e, h, ?_⟩
      obtain ⟨d, hd1, hd2⟩ := h
      have hw : FX10_within n σ (cd pl) 48 (nI (48 + m)) = some (1, σ) := by rw [hd2]; exact within_in (a := 48) (by omega) (by omega) (by omega)
      rw [hw, zbd_s, zif_neg (by decide), zlet_s, h13, nI_1, zst_ss, nI_pred, zgd_in (show fs + pl < 240 by omega) (by decide), zcl (by omega), zst_n (by decide), hK.o3, hcd pl e, hd.2, Nat.add_assoc]
    · refine Or.inr ⟨fun z => dg_no (by omega) h z.2, ?_⟩
      rw [within_out (show cd pl < 48 ∨ nI (48 + m) < cd pl from h.elim Or.inl (fun q => Or.inr (Int32.lt_of_lt_of_le (nI_lt (by omega) (by omega)) q))), zbd_s, zif_pos rfl]
  · exact Or.inr ⟨fun z => e z.1, by rw [zif_pos (nI_le (by omega) (by omega))]⟩
/-- all codes ahead of pl are good -/
abbrev gdP (cd : Nat → Int32) (len pl : Nat) : Prop := ∀ q, q < pl → q < len ∧ okP q (cd q)
theorem gdP_s {cd : Nat → Int32} {len pl : Nat} (h : gdP cd len pl) (h1 : pl < len) (h2 : okP pl (cd pl)) : gdP cd len (pl + 1) := fun q hq => by
  by_cases e : q = pl
  · rw [e]; exact ⟨h1, h2⟩
  · exact h q (by omega)
theorem gdP_le {cd : Nat → Int32} {len pl : Nat} (h : gdP cd len pl) : pl ≤ len := by
  rcases Nat.eq_zero_or_pos pl with e | e
  · omega
  · have := (h (pl - 1) (by omega)).1; omega
theorem ok_mk {p q : Nat} {x : Int32} (hq : q < 5) (hp : p < 6) (h : (q = 0 → x = 59) ∧ (q = 1 → (x = 103 ∨ x = 104 ∨ x = 116)) ∧ (q = 3 → dgP 8 x) ∧ (q = 2 ∨ q = 4 → dgP 10 x)) : okP (4 + 5 * p + q) x := by
  unfold okP
  rw [if_neg (by omega), if_neg (by omega), if_neg (by omega), show (4 + 5 * p + q - 4) % 5 = q by omega]
  rcases (show q = 0 ∨ q = 1 ∨ q = 2 ∨ q = 3 ∨ q = 4 by omega) with e | e | e | e | e
  · rw [if_pos e]; exact h.1 e
  · rw [if_neg (by omega), if_pos e]; exact h.2.1 e
  · rw [if_neg (by omega), if_neg (by omega), if_neg (by omega)]; exact h.2.2.2 (Or.inl e)
  · rw [if_neg (by omega), if_neg (by omega), if_pos e]; exact h.2.2.1 e
  · rw [if_neg (by omega), if_neg (by omega), if_neg (by omega)]; exact h.2.2.2 (Or.inr e)
/-- how a person's reading ends -/
def rpO (cd : Nat → Int32) (fs len r : Nat) (σ0 σ : zMem) (x : Option (Int32 × zMem)) : Prop :=
  (∃ σ', x = some (1, σ') ∧ mK σ0 σ' ∧ σ' 0 13 = nI (fs + (4 + 5 * (r + 1))) ∧ σ' 0 14 = nI (r + 1) ∧ gdP cd len (4 + 5 * (r + 1)) ∧ σ' 9 = σ 9 ∧ (∀ j, j < 4 * r → σ' 10 j = σ 10 j) ∧ σ' 10 (4 * r) = nI (kdv (cd (4 + 5 * r + 1))) ∧ ∀ g, 0 < g → g < 4 → σ' 10 (4 * r + g) = nI (dgv (cd (4 + 5 * r + 1 + g))))
  ∨ ∃ σ' pl, x = some (0, σ') ∧ mK σ0 σ' ∧ σ' 0 13 = nI (fs + pl) ∧ isFF cd len (some pl)
theorem rPerson_lx {n fs len r : Nat} {cd : Nat → Int32} {σ0 σS : zMem} {l2 : Int32} (hE : fs + len ≤ 240) (hcd : ∀ q, q < len → σ0 3 (fs + q) = cd q) (hr : r < 6) : ∀ f k q (σ : zMem), q + k = 4 → 0 < q → k < f → mK σ0 σ → σ 0 13 = nI (fs + (4 + 5 * r + 1 + q)) → σ 0 14 = nI r → gdP cd len (4 + 5 * r + 1 + q) → σ 9 = σS 9 → (∀ j, j < 4 * r → σ 10 j = σS 10 j) → σ 10 (4 * r) = nI (kdv (cd (4 + 5 * r + 1))) → (∀ g, 0 < g → g < q → σ 10 (4 * r + g) = nI (dgv (cd (4 + 5 * r + 1 + g)))) → rpO cd fs len r σ0 σS (zlp (LX10_readPerson_93 n) f (σ, nI (fs + len), l2, nI (4 * r), nI q)) := by
  intro f
  induction f with
  | zero => intro k q σ _ _ h; omega
  | succ f ih =>
    intro k q σ hk hq0 hf hK h13 h14 hG h9 h10 hkd hdg
    rw [zlp_n]
    show rpO cd fs len r σ0 σS (LBX10_readPerson_93 n _ σ (nI (fs + len)) l2 (nI (4 * r)) (nI q))
    unfold LBX10_readPerson_93 BX10_readPerson_122
    cases k with
    | zero =>
      rw [zif_pos (show (4 : Int32) ≤ nI q from nI_le (a := 4) (by omega) (by omega)), zlet_s, h14, nI_1]
      refine Or.inl ⟨_, rfl, hK.st (by omega), ?_, zst_ss, ?_, ?_, ?_, ?_, ?_⟩
      · rw [zst_sn (by decide), h13]; congr 1; omega
      · rw [show 4 + 5 * (r + 1) = 4 + 5 * r + 1 + q by omega]; exact hG
      · rw [zst_n (by decide)]; exact h9
      · intro j hj; rw [zst_n (by decide)]; exact h10 j hj
      · rw [zst_n (by decide)]; exact hkd
      · intro g g1 g2; rw [zst_n (by decide)]; exact hdg g g1 (by omega)
    | succ k =>
      rw [zif_neg (show ¬ (4 : Int32) ≤ nI q from nI_ge (b := 4) (by omega) (by omega)), nI_add]
      have hpl := gdP_le hG
      have core : ∀ m : Nat, m ≤ 9 → ((dgP (m + 1) (cd (4 + 5 * r + 1 + q))) ↔ okP (4 + 5 * r + 1 + q) (cd (4 + 5 * r + 1 + q))) → rpO cd fs len r σ0 σS (zbd (FX10_digit n σ (nI (fs + len)) (nI m)) (fun r2 σ1 => zgd (¬ (nI (4 * r + q) < 0 ∨ 24 ≤ (nI (4 * r + q)).toNatClampNeg)) (zlet (zst σ1 10 (nI (4 * r + q)).toNatClampNeg r2) (fun σ5 => zgd (¬ (nI (4 * r + q) < 0 ∨ 24 ≤ (nI (4 * r + q)).toNatClampNeg)) (zif (σ5 10 (nI (4 * r + q)).toNatClampNeg = -9) (some (0, σ5)) (zlp (LX10_readPerson_93 n) f (σ5, nI (fs + len), l2, nI (4 * r), nI q + 1))))))) := by
        intro m hm hiff
        rcases digit_c (n := n) hE hcd hK h13 hpl hm with ⟨q1, q2, q3⟩ | ⟨q1, q2⟩
        · have hd := dgv_of (by omega) q2
          rw [q3, zbd_s, zgd_in (show 4 * r + q < 24 by omega) (by decide), zlet_s, zgd_in (show 4 * r + q < 24 by omega) (by decide), zcl (by omega), zst_ss, zif_neg (nI_ne9 (by omega)), nI_1]
          refine ih k (q + 1) _ (by omega) (by omega) (by omega) ((hK.st (by omega)).st (by omega)) ?_ ?_ ?_ ?_ ?_ ?_ ?_
          · rw [zst_n (by decide), zst_ss]; congr 1
          · rw [zst_n (by decide), zst_sn (by decide)]; exact h14
          · rw [show 4 + 5 * r + 1 + (q + 1) = 4 + 5 * r + 1 + q + 1 by omega]; exact gdP_s hG q1 (hiff.mp q2)
          · rw [zst_n (by decide), zst_n (by decide)]; exact h9
          · intro j hj; rw [zst_sn (by omega), zst_n (by decide)]; exact h10 j hj
          · rw [zst_sn (by omega), zst_n (by decide)]; exact hkd
          · intro g g1 g2
            by_cases e : g = q
            · rw [e, zst_ss]
            · rw [zst_sn (by omega), zst_n (by decide)]; exact hdg g g1 (by omega)
        · rw [q2, zbd_s, zgd_in (show 4 * r + q < 24 by omega) (by decide), zlet_s, zgd_in (show 4 * r + q < 24 by omega) (by decide), zcl (by omega), zst_ss, zif_pos rfl]
          refine Or.inr ⟨_, 4 + 5 * r + 1 + q, rfl, hK.st (by omega), by rw [zst_n (by decide)]; exact h13, hG, ?_⟩
          by_cases e : 4 + 5 * r + 1 + q < len
          · exact Or.inl ⟨e, fun z => q1 ⟨e, hiff.mpr z⟩⟩
          · exact Or.inr ⟨by omega, fun z => by omega⟩
      have hok := ok_p (p := r) (q := 1 + q) (x := cd (4 + 5 * r + 1 + q))
      have hmk := ok_mk (p := r) (q := 1 + q) (x := cd (4 + 5 * r + 1 + q))
      rw [show 4 + 5 * r + (1 + q) = 4 + 5 * r + 1 + q by omega] at hok hmk
      by_cases e : q = 2
      · rw [zif_pos (by rw [e]; rfl)]
        exact core 7 (by decide) ⟨fun z => hmk (by omega) hr ⟨fun w => by omega, fun w => by omega, fun _ => z, fun w => by omega⟩, fun z => (hok z (by omega) hr).2.2.1 (by omega)⟩
      · rw [zif_neg (show ¬ nI q = 2 from nI_ne (b := 2) (by omega) (by decide) e)]
        exact core 9 (by decide) ⟨fun z => hmk (by omega) hr ⟨fun w => by omega, fun w => by omega, fun w => by omega, fun _ => z⟩, fun z => (hok z (by omega) hr).2.2.2 (by omega)⟩
theorem readPerson_x {n fs len r : Nat} {cd : Nat → Int32} {σ0 σ : zMem} (hn : 6 < n) (hE : fs + len ≤ 240) (hcd : ∀ q, q < len → σ0 3 (fs + q) = cd q) (hr : r < 6) (hK : mK σ0 σ) (h13 : σ 0 13 = nI (fs + (4 + 5 * r + 1))) (h14 : σ 0 14 = nI r) (hG : gdP cd len (4 + 5 * r + 1)) : rpO cd fs len r σ0 σ (FX10_readPerson n σ (nI (fs + len))) := by
  have hpl := gdP_le hG
  have e4 : (4 : Int32) * nI r = nI (4 * r) := pk_mul 4 r
  have core : ∀ (x : Int32) (v : Nat), v < 3 → (4 + 5 * r + 1 < len ∧ okP (4 + 5 * r + 1) (cd (4 + 5 * r + 1))) → kdv (cd (4 + 5 * r + 1)) = v → rpO cd fs len r σ0 σ (BX10_readPerson_66 n σ (nI (fs + len)) x (nI (4 * r)) (nI (4 * r)) (nI v)) := by
    intro x v hv h1 h2
    unfold BX10_readPerson_66
    rw [zgd_in (show 4 * r < 24 by omega) (by decide), zlet_s, zgd_in (show 4 * r < 24 by omega) (by decide), zcl (by omega), zst_ss, zif_neg (nI_ne9 (by omega)), zst_n (by decide), h13, nI_1, zlet_s]
    refine rPerson_lx hE hcd hr n 3 1 _ (by omega) (by omega) (by omega) ((hK.st (by omega)).st (by omega)) ?_ ?_ (gdP_s hG h1.1 h1.2) ?_ ?_ ?_ ?_
    · rw [zst_ss, Nat.add_assoc]
    · rw [zst_sn (by decide), zst_n (by decide)]; exact h14
    · rw [zst_n (by decide), zst_n (by decide)]
    · intro j hj; rw [zst_n (by decide), zst_sn (by omega)]
    · rw [zst_n (by decide), zst_ss, h2]
    · intro g g1 g2; omega
  have bad : ∀ x : Int32, ¬ (4 + 5 * r + 1 < len ∧ okP (4 + 5 * r + 1) (cd (4 + 5 * r + 1))) → rpO cd fs len r σ0 σ (BX10_readPerson_66 n σ (nI (fs + len)) x (nI (4 * r)) (nI (4 * r)) (-9)) := by
    intro x h1
    unfold BX10_readPerson_66
    rw [zgd_in (show 4 * r < 24 by omega) (by decide), zlet_s, zgd_in (show 4 * r < 24 by omega) (by decide), zcl (by omega), zst_ss, zif_pos rfl]
    refine Or.inr ⟨_, 4 + 5 * r + 1, rfl, hK.st (by omega), by rw [zst_n (by decide)]; exact h13, hG, ?_⟩
    by_cases e : 4 + 5 * r + 1 < len
    · exact Or.inl ⟨e, fun z => h1 ⟨e, z⟩⟩
    · exact Or.inr ⟨by omega, fun z => by omega⟩
  have hok := ok_p (p := r) (q := 1) (x := cd (4 + 5 * r + 1))
  have hmk := ok_mk (p := r) (q := 1) (x := cd (4 + 5 * r + 1))
  unfold FX10_readPerson BX10_readPerson_21
  rw [h13, h14, e4, hK.o3]
  by_cases e : 4 + 5 * r + 1 < len
  · rw [zif_neg (nI_ge (by omega) (by omega)), zgd_in (show fs + (4 + 5 * r + 1) < 240 by omega) (by decide), zcl (by omega), hcd _ e]
    have mk : (cd (4 + 5 * r + 1) = 103 ∨ cd (4 + 5 * r + 1) = 104 ∨ cd (4 + 5 * r + 1) = 116) → okP (4 + 5 * r + 1) (cd (4 + 5 * r + 1)) := fun z => hmk (by decide) hr ⟨fun w => by omega, fun _ => z, fun w => by omega, fun w => by omega⟩
    by_cases c1 : cd (4 + 5 * r + 1) = 103
    · rw [zif_pos c1]
      exact core _ 0 (by decide) ⟨e, mk (Or.inl c1)⟩ (by unfold kdv; rw [if_pos c1])
    by_cases c2 : cd (4 + 5 * r + 1) = 116
    · rw [zif_neg c1, zif_pos c2]
      exact core _ 1 (by decide) ⟨e, mk (Or.inr (Or.inr c2))⟩ (by unfold kdv; rw [if_neg c1, if_pos c2])
    by_cases c3 : cd (4 + 5 * r + 1) = 104
    · rw [zif_neg c1, zif_neg c2, zif_pos c3]
      exact core _ 2 (by decide) ⟨e, mk (Or.inr (Or.inl c3))⟩ (by unfold kdv; rw [if_neg c1, if_neg c2])
    · rw [zif_neg c1, zif_neg c2, zif_neg c3]
      exact bad _ (fun z => ((hok z.2 (by decide) hr).2.1 rfl).elim c1 (fun w => w.elim c3 c2))
  · rw [zif_pos (nI_le (by omega) (by omega)), zif_neg (by decide), zif_neg (by decide), zif_neg (by decide)]
    exact bad _ (fun z => e z.1)
/-- how a reading of a text ends -/
def rtO (cd : Nat → Int32) (fs len : Nat) (σ0 : zMem) (x : Option (Int32 × zMem)) : Prop :=
  (∃ σ', x = some (1, σ') ∧ mK σ0 σ' ∧ isFF cd len none ∧ σ' 0 14 = nI ((len - 4) / 5) ∧ (∀ m, m < 3 → σ' 9 m = nI (dgv (cd (1 + m)))) ∧ ∀ p, p < (len - 4) / 5 → σ' 10 (4 * p) = nI (kdv (cd (4 + 5 * p + 1))) ∧ ∀ g, 0 < g → g < 4 → σ' 10 (4 * p + g) = nI (dgv (cd (4 + 5 * p + 1 + g))))
  ∨ ∃ σ' pl, x = some (0, σ') ∧ mK σ0 σ' ∧ σ' 0 13 = nI (fs + pl) ∧ isFF cd len (some pl)
theorem readPeople_lx {n fs len : Nat} {cd : Nat → Int32} {σ0 : zMem} {l2 : Int32} (hn : 6 < n) (hE : fs + len ≤ 240) (hcd : ∀ q, q < len → σ0 3 (fs + q) = cd q) : ∀ f k r (σ : zMem), r + k = 6 → k < f → mK σ0 σ → σ 0 13 = nI (fs + (4 + 5 * r)) → σ 0 14 = nI r → gdP cd len (4 + 5 * r) → (∀ m, m < 3 → σ 9 m = nI (dgv (cd (1 + m)))) → (∀ p, p < r → σ 10 (4 * p) = nI (kdv (cd (4 + 5 * p + 1))) ∧ ∀ g, 0 < g → g < 4 → σ 10 (4 * p + g) = nI (dgv (cd (4 + 5 * p + 1 + g)))) → rtO cd fs len σ0 (zlp (LX10_readProvince_56 n) f (σ, nI (fs + len), l2)) := by
  intro f
  induction f with
  | zero => intro k r σ _ h; omega
  | succ f ih =>
    intro k r σ hk hf hK h13 h14 hG h9 h10
    rw [zlp_n]
    show rtO cd fs len σ0 (LBX10_readProvince_56 n _ σ (nI (fs + len)) l2)
    have hpl := gdP_le hG
    have fin : 2 ≤ r → (r = 6 ∨ 4 + 5 * r = len) → rtO cd fs len σ0 (BX10_readProvince_101 n σ (nI (fs + len)) l2) := by
      intro h2 h6
      unfold BX10_readProvince_101
      rw [h13]
      by_cases e : 4 + 5 * r = len
      · rw [zif_pos (by rw [e])]
        refine Or.inl ⟨σ, rfl, hK, ⟨fun q hq => (hG q (by omega)).2, by omega, by omega⟩, by rw [h14]; congr 1; omega, h9, fun p hp => h10 p (by omega)⟩
      · rw [zif_neg (nI_ne (by omega) (by omega) (by omega))]
        refine Or.inr ⟨σ, 4 + 5 * r, rfl, hK, h13, hG, Or.inl ⟨by omega, fun z => ?_⟩⟩
        unfold okP at z
        rw [if_neg (by omega), if_neg (by omega), if_pos (by omega)] at z
        exact z
    have one : r < 6 → (r < 2 ∨ 4 + 5 * r < len) → rtO cd fs len σ0 (BX10_readProvince_81 n (zlp (LX10_readProvince_56 n) f) σ (nI (fs + len)) l2) := by
      intro hr6 hmore
      unfold BX10_readProvince_81
      rcases isSign_c (n := n) (x := 59) hE hcd hK h13 hpl with ⟨q1, q2, q3⟩ | ⟨q1, q2⟩
      · rw [q3, zbd_s, zif_neg (by decide)]
        have o0 : okP (4 + 5 * r) (cd (4 + 5 * r)) := ok_mk (q := 0) (by decide) hr6 ⟨fun _ => q2, fun w => by omega, fun w => by omega, fun w => by omega⟩
        have key := readPerson_x (n := n) (σ := zst σ 0 13 (nI (fs + (4 + 5 * r + 1)))) hn hE hcd hr6 (hK.st (by omega)) zst_ss (by rw [zst_sn (by decide)]; exact h14) (gdP_s hG q1 o0)
        rcases key with ⟨σ', g1, g2, g3, g4, g5, g6, g7, g8, g9⟩ | ⟨σ', pl, g1, g2, g3, g4⟩
        · rw [g1, zbd_s, zif_neg (by decide)]
          refine ih (k - 1) (r + 1) σ' (by omega) (by omega) g2 g3 g4 g5 (fun m hm => by rw [g6, zst_n (by decide)]; exact h9 m hm) (fun p hp => ?_)
          by_cases e : p = r
          · rw [e]; exact ⟨g8, g9⟩
          · have := h10 p (by omega)
            exact ⟨by rw [g7 _ (by omega), zst_n (by decide)]; exact this.1, fun g ga gb => by rw [g7 _ (by omega), zst_n (by decide)]; exact this.2 g ga gb⟩
        · rw [g1, zbd_s, zif_pos rfl]
          exact Or.inr ⟨σ', pl, rfl, g2, g3, g4⟩
      · rw [q2, zbd_s, zif_pos rfl]
        refine Or.inr ⟨σ, 4 + 5 * r, rfl, hK, h13, hG, ?_⟩
        by_cases e : 4 + 5 * r < len
        · exact Or.inl ⟨e, fun z => q1 ⟨e, (ok_p (q := 0) z (by decide) hr6).1 rfl⟩⟩
        · exact Or.inr ⟨by omega, fun z => by omega⟩
    unfold LBX10_readProvince_56
    rw [h14, h13]
    by_cases e2 : r < 2
    · rw [zif_pos (show nI r < 2 from nI_lt (b := 2) e2 (by decide))]
      exact one (by omega) (Or.inl e2)
    · rw [zif_neg (show ¬ nI r < 2 from nI_nlt (b := 2) (by omega) (by omega))]
      by_cases e6 : 6 ≤ r
      · rw [zif_pos (show (6 : Int32) ≤ nI r from nI_le (a := 6) e6 (by omega))]
        exact fin (by omega) (Or.inl (by omega))
      · rw [zif_neg (show ¬ (6 : Int32) ≤ nI r from nI_ge (b := 6) (by omega) (by decide))]
        by_cases e7 : len ≤ 4 + 5 * r
        · rw [zif_pos (nI_le (by omega) (by omega))]
          exact fin (by omega) (Or.inr (by omega))
        · rw [zif_neg (nI_ge (by omega) (by omega))]
          exact one (by omega) (Or.inr (by omega))
theorem readWorths_lx {n fs len : Nat} {cd : Nat → Int32} {σ0 : zMem} (hn : 8 < n) (hE : fs + len ≤ 240) (hcd : ∀ q, q < len → σ0 3 (fs + q) = cd q) : ∀ f k i (σ : zMem), i + k = 3 → k < f → mK σ0 σ → σ 0 13 = nI (fs + (1 + i)) → σ 0 14 = nI 0 → gdP cd len (1 + i) → (∀ m, m < i → σ 9 m = nI (dgv (cd (1 + m)))) → rtO cd fs len σ0 (zlp (LX10_readProvince_19 n) f (σ, nI (fs + len), nI i)) := by
  intro f
  induction f with
  | zero => intro k i σ _ h; omega
  | succ f ih =>
    intro k i σ hk hf hK h13 h14 hG h9
    rw [zlp_n]
    show rtO cd fs len σ0 (LBX10_readProvince_19 n _ σ (nI (fs + len)) (nI i))
    unfold LBX10_readProvince_19
    have hpl := gdP_le hG
    cases k with
    | zero =>
      rw [zif_pos (show (3 : Int32) ≤ nI i from nI_le (a := 3) (by omega) (by omega))]
      exact readPeople_lx (by omega) hE hcd n 6 0 σ (by omega) (by omega) hK (by rw [h13, show i = 3 by omega]) h14 (by rw [show i = 3 by omega] at hG; exact hG) (fun m hm => h9 m (by omega)) (fun p hp => by omega)
    | succ k =>
      rw [zif_neg (show ¬ (3 : Int32) ≤ nI i from nI_ge (b := 3) (by omega) (by omega))]
      rcases digit_c (n := n) (m := 9) hE hcd hK h13 hpl (by decide) with ⟨q1, q2, q3⟩ | ⟨q1, q2⟩
      · have hd := dgv_of (by decide) q2
        rw [show FX10_digit n σ (nI (fs + len)) 9 = _ from q3, zbd_s, zgd_in (show i < 3 by omega) (by decide), zlet_s, zgd_in (show i < 3 by omega) (by decide), zcl (by omega), zst_ss, zif_neg (nI_ne9 (by omega)), nI_1]
        have o0 : okP (1 + i) (cd (1 + i)) := by unfold okP; rw [if_neg (by omega), if_pos (by omega)]; exact q2
        refine ih k (i + 1) _ (by omega) (by omega) ((hK.st (by omega)).st (by omega)) ?_ ?_ (gdP_s hG q1 o0) (fun m hm => ?_)
        · rw [zst_n (by decide), zst_ss]; congr 1
        · rw [zst_n (by decide), zst_sn (by decide)]; exact h14
        · by_cases e : m = i
          · rw [e, zst_ss]
          · rw [zst_sn e, zst_n (by decide)]; exact h9 m (by omega)
      · rw [show FX10_digit n σ (nI (fs + len)) 9 = _ from q2, zbd_s, zgd_in (show i < 3 by omega) (by decide), zlet_s, zgd_in (show i < 3 by omega) (by decide), zcl (by omega), zst_ss, zif_pos rfl]
        refine Or.inr ⟨_, 1 + i, rfl, hK.st (by omega), by rw [zst_n (by decide)]; exact h13, hG, ?_⟩
        by_cases e : 1 + i < len
        · exact Or.inl ⟨e, fun z => q1 ⟨e, ok_w z (by omega) (by omega)⟩⟩
        · exact Or.inr ⟨by omega, fun z => by omega⟩
theorem readProvince_x {n fs len : Nat} {cd : Nat → Int32} {σ0 σ : zMem} (hn : 8 < n) (hE : fs + len ≤ 240) (hcd : ∀ q, q < len → σ0 3 (fs + q) = cd q) (hK : mK σ0 σ) (h13 : σ 0 13 = nI fs) : rtO cd fs len σ0 (FX10_readProvince n σ (nI (fs + len))) := by
  unfold FX10_readProvince
  rw [zlet_s]
  have hG : gdP cd len 0 := fun q hq => by omega
  rcases isSign_c (n := n) (x := 112) (pl := 0) hE hcd (show mK σ0 (zst σ 0 14 0) from hK.st (by omega)) (by rw [zst_sn (by decide)]; exact h13) (by omega) with ⟨q1, q2, q3⟩ | ⟨q1, q2⟩
  · rw [q3, zbd_s, zif_neg (by decide)]
    have o0 : okP 0 (cd 0) := by unfold okP; rw [if_pos rfl]; exact q2
    exact readWorths_lx hn hE hcd n 3 0 _ (by omega) (by omega) ((hK.st (by omega)).st (by omega)) zst_ss (by rw [zst_sn (by decide), zst_ss]; rfl) (gdP_s hG q1 o0) (fun m hm => by omega)
  · rw [q2, zbd_s, zif_pos rfl]
    refine Or.inr ⟨_, 0, rfl, hK.st (by omega), by rw [zst_sn (by decide)]; exact h13, hG, ?_⟩
    by_cases e : 0 < len
    · refine Or.inl ⟨e, fun z => ?_⟩
      unfold okP at z
      rw [if_pos rfl] at z
      exact q1 ⟨e, z⟩
    · exact Or.inr ⟨by omega, fun z => by omega⟩
