/-! ===== texts ===== -/
def dgP (v : Nat) (x : Int32) : Prop := ∃ d, d < v ∧ x = nI (48 + d)
def okP (pl : Nat) (x : Int32) : Prop := if pl = 0 then x = 112 else if pl < 4 then dgP 10 x else if 34 ≤ pl then False else if (pl - 4) % 5 = 0 then x = 59 else if (pl - 4) % 5 = 1 then (x = 103 ∨ x = 104 ∨ x = 116) else if (pl - 4) % 5 = 3 then dgP 8 x else dgP 10 x
def isFF (cd : Nat → Int32) (len : Nat) (r : Option Nat) : Prop := match r with
  | some pl => (∀ q, q < pl → q < len ∧ okP q (cd q)) ∧ ((pl < len ∧ ¬ okP pl (cd pl)) ∨ (pl = len ∧ ¬ (14 ≤ len ∧ (len - 4) % 5 = 0)))
  | none => (∀ q, q < len → okP q (cd q)) ∧ 14 ≤ len ∧ (len - 4) % 5 = 0
theorem isFF_u {cd : Nat → Int32} {len : Nat} {r r' : Option Nat} (h : isFF cd len r) (h' : isFF cd len r') : r = r' := by
  cases r with
  | none =>
    cases r' with
    | none => rfl
    | some p =>
      obtain ⟨g, q⟩ := h'
      rcases q with ⟨q1, q2⟩ | ⟨q1, q2⟩
      · exact absurd (h.1 p q1) q2
      · exact absurd h.2 q2
  | some p =>
    cases r' with
    | none =>
      obtain ⟨g, q⟩ := h
      rcases q with ⟨q1, q2⟩ | ⟨q1, q2⟩
      · exact absurd (h'.1 p q1) q2
      · exact absurd h'.2 q2
    | some p' =>
      obtain ⟨g, q⟩ := h
      obtain ⟨g', q'⟩ := h'
      rcases Nat.lt_trichotomy p p' with e | e | e
      · have := g' p e
        rcases q with ⟨q1, q2⟩ | ⟨q1, q2⟩
        · exact absurd this.2 q2
        · omega
      · rw [e]
      · have := g p' e
        rcases q' with ⟨q1, q2⟩ | ⟨q1, q2⟩
        · exact absurd this.2 q2
        · omega
theorem dg_cs (x : Int32) {v : Nat} (hv : v ≤ 10) : dgP v x ∨ (x < 48 ∨ nI (48 + v) ≤ x) := by
  rcases pk_ix x (show 48 + v < 2 ^ 31 by omega) with h | h | ⟨j, hj, rfl⟩
  · exact Or.inr (Or.inl (Int32.lt_of_lt_of_le h (by decide)))
  · exact Or.inr (Or.inr h)
  · by_cases e : j < 48
    · exact Or.inr (Or.inl (nI_lt (b := 48) e (by decide)))
    · exact Or.inl ⟨j - 48, by omega, by rw [show 48 + (j - 48) = j by omega]⟩
theorem dg_no {x : Int32} {v : Nat} (hv : v ≤ 10) (h : x < 48 ∨ nI (48 + v) ≤ x) : ¬ dgP v x := by
  rintro ⟨d, hd, rfl⟩
  rcases h with q | q
  · exact nI_nlt (a := 48 + d) (b := 48) (by omega) (by omega) q
  · exact nI_ge (a := 48 + d) (b := 48 + v) (by omega) (by omega) q
theorem isDigit_t {n v : Nat} {σ : zMem} {x : Int32} (hv : v ≤ 10) (h : dgP v x) : FX7_isDigit n σ x (nI v) = some (1, σ) := by
  obtain ⟨d, hd, rfl⟩ := h
  unfold FX7_isDigit
  rw [zif_neg (show ¬ nI (48 + d) < 48 from nI_nlt (b := 48) (by omega) (by omega)), show (48 : Int32) + nI v = nI (48 + v) from nI_add 48 v, zif_neg (nI_ge (by omega) (by omega))]
theorem isDigit_f {n v : Nat} {σ : zMem} {x : Int32} (hv : v ≤ 10) (h : ¬ dgP v x) : FX7_isDigit n σ x (nI v) = some (0, σ) := by
  have h := (dg_cs x hv).resolve_left h
  unfold FX7_isDigit
  rw [show (48 : Int32) + nI v = nI (48 + v) from nI_add 48 v]
  by_cases e : x < 48
  · rw [zif_pos e]
  · rw [zif_neg e, zif_pos (h.resolve_left e)]
theorem kindOf_f {n : Nat} {σ : zMem} {x : Int32} (h : ¬ (x = 103 ∨ x = 104 ∨ x = 116)) : FX7_kindOf n σ x = some (-9, σ) := by
  unfold FX7_kindOf
  rw [zif_neg (fun q => h (Or.inl q)), zif_neg (fun q => h (Or.inr (Or.inl q))), zif_neg (fun q => h (Or.inr (Or.inr q)))]
def kdv (x : Int32) : Nat := if x = 103 then 0 else if x = 116 then 1 else 2
theorem kindOf_t {n : Nat} {σ : zMem} {x : Int32} (h : x = 103 ∨ x = 104 ∨ x = 116) : FX7_kindOf n σ x = some (nI (kdv x), σ) := by
  unfold FX7_kindOf kdv
  rcases h with rfl | rfl | rfl
  · rw [zif_pos rfl, if_pos rfl]; rfl
  · rw [zif_neg (by decide), zif_pos rfl, if_neg (by decide), if_neg (by decide)]; rfl
  · rw [zif_neg (by decide), zif_neg (by decide), zif_pos rfl, if_neg (by decide), if_pos rfl]; rfl
theorem kdv_lt (x : Int32) : kdv x < 3 := by
  unfold kdv
  split
  · omega
  · split <;> omega
theorem mayStand_x {n pl : Nat} {σ : zMem} {x : Int32} (hp : pl ≤ 60) : (okP pl x → FX7_mayStand n σ (nI pl) x = some (1, σ)) ∧ (¬ okP pl x → FX7_mayStand n σ (nI pl) x = some (0, σ)) := by
  unfold FX7_mayStand BX7_mayStand_106 okP
  by_cases e0 : pl = 0
  · subst e0
    rw [if_pos rfl, zif_pos (show nI 0 = 0 from rfl)]
    exact ⟨fun h => by rw [zif_pos h], fun h => by rw [zif_neg h]⟩
  have n0 : ¬ nI pl = 0 := nI_ne0 (by omega) (by omega)
  rw [if_neg e0, zif_neg n0]
  by_cases e4 : pl < 4
  · rw [if_pos e4, zif_neg (show ¬ (4 : Int32) ≤ nI pl from nI_ge (b := 4) e4 (by decide)), li_10]
    exact ⟨fun h => by rw [isDigit_t (by decide) h, zbd_s, zgd_t (Or.inr rfl)], fun h => by rw [isDigit_f (by decide) h, zbd_s, zgd_t (Or.inl rfl)]⟩
  rw [if_neg e4, zif_pos (show (4 : Int32) ≤ nI pl from nI_le (a := 4) (by omega) (by omega))]
  by_cases e34 : 34 ≤ pl
  · rw [if_pos e34, zif_neg (show ¬ nI pl < 34 from nI_nlt (b := 34) e34 (by omega))]
    exact ⟨fun h => h.elim, fun _ => rfl⟩
  have hm := Nat.mod_lt (pl - 4) (show 0 < 5 by decide)
  have er : (nI pl - 4) - (nI pl - 4) / 5 * 5 = nI ((pl - 4) % 5) := by
    rw [show nI pl - 4 = nI (pl - 4) from pk_sub (b := 4) (by omega)]
    exact pk_rem (d := 5) (by omega) (by decide) (by decide)
  rw [if_neg e34, zif_pos (show nI pl < 34 from nI_lt (b := 34) (by omega) (by decide)), er]
  generalize (pl - 4) % 5 = r at hm
  rcases (show r = 0 ∨ r = 1 ∨ r = 2 ∨ r = 3 ∨ r = 4 by omega) with rfl | rfl | rfl | rfl | rfl
  · rw [if_pos rfl, zif_pos (show nI 0 = 0 from rfl)]
    exact ⟨fun h => by rw [zif_pos h], fun h => by rw [zif_neg h]⟩
  · rw [if_neg (by decide), if_pos rfl, zif_neg (by decide), zif_pos (by decide)]
    exact ⟨fun h => by rw [kindOf_t h, zbd_s, zif_neg (nI_ne9 (by have := kdv_lt x; omega))], fun h => by rw [kindOf_f h, zbd_s, zif_pos rfl]⟩
  · rw [if_neg (by decide), if_neg (by decide), if_neg (by decide), zif_neg (by decide), zif_neg (by decide), zif_pos (by decide), li_10]
    exact ⟨fun h => by rw [isDigit_t (by decide) h, zbd_s, zgd_t (Or.inr rfl)], fun h => by rw [isDigit_f (by decide) h, zbd_s, zgd_t (Or.inl rfl)]⟩
  · rw [if_neg (by decide), if_neg (by decide), if_pos rfl, zif_neg (by decide), zif_neg (by decide), zif_neg (by decide), zif_pos (by decide), li_8]
    exact ⟨fun h => by rw [isDigit_t (by decide) h, zbd_s, zgd_t (Or.inr rfl)], fun h => by rw [isDigit_f (by decide) h, zbd_s, zgd_t (Or.inl rfl)]⟩
  · rw [if_neg (by decide), if_neg (by decide), if_neg (by decide), zif_neg (by decide), zif_neg (by decide), zif_neg (by decide), zif_neg (by decide), li_10]
    exact ⟨fun h => by rw [isDigit_t (by decide) h, zbd_s, zgd_t (Or.inr rfl)], fun h => by rw [isDigit_f (by decide) h, zbd_s, zgd_t (Or.inl rfl)]⟩
theorem firstFault_lx {n k b len : Nat} {σ : zMem} {cd : Nat → Int32} (hb : b + len ≤ 60) (hcd : ∀ q, q < len → σ (2 + k + 4) (b + q) = cd q) : ∀ f r pl, pl + r = len → r < f → (∀ q, q < pl → q < len ∧ okP q (cd q)) → ∃ F, zlp (LX7_firstFault_2 n (2 + k)) f (σ, nI b, nI len, nI pl) = some (enc F, σ) ∧ isFF cd len F := by
  intro f
  induction f with
  | zero => intro r pl _ h; omega
  | succ f ih =>
    intro r pl hr hf hG
    rw [zlp_n]
    show ∃ F, LBX7_firstFault_2 n (2 + k) _ σ (nI b) (nI len) (nI pl) = _ ∧ _
    unfold LBX7_firstFault_2 BX7_firstFault_48 BX7_firstFault_49
    cases r with
    | zero =>
      rw [zif_pos (nI_le (by omega) (by omega))]
      by_cases e : len < 14
      · rw [zif_pos (show nI len < 14 from nI_lt (b := 14) e (by decide)), zif_pos rfl]
        exact ⟨some len, rfl, ⟨by rw [show len = pl by omega] at hG ⊢; exact hG, Or.inr ⟨rfl, fun z => by omega⟩⟩⟩
      · have er : (nI len - 4) - (nI len - 4) / 5 * 5 = nI ((len - 4) % 5) := by
          rw [show nI len - 4 = nI (len - 4) from pk_sub (b := 4) (by omega)]
          exact pk_rem (d := 5) (by omega) (by decide) (by decide)
        rw [zif_neg (show ¬ nI len < 14 from nI_nlt (b := 14) (by omega) (by omega)), er]
        by_cases e2 : (len - 4) % 5 = 0
        · rw [e2, zif_pos (by decide), zif_neg (by decide)]
          exact ⟨none, rfl, ⟨fun q hq => (hG q (by omega)).2, by omega, e2⟩⟩
        · rw [zif_neg (show ¬ nI ((len - 4) % 5) = 0 from nI_ne (b := 0) (by omega) (by decide) e2), zif_pos rfl]
          exact ⟨some len, rfl, ⟨by rw [show len = pl by omega] at hG ⊢; exact hG, Or.inr ⟨rfl, fun z => e2 z.2⟩⟩⟩
    | succ r =>
      rw [zif_neg (nI_ge (by omega) (by omega)), nI_add, zgd_in (show b + pl < 60 by omega) (by decide), zcl (by omega), hcd pl (by omega)]
      have hm := mayStand_x (n := n) (pl := pl) (σ := σ) (x := cd pl) (by omega)
      by_cases e : okP pl (cd pl)
      · rw [hm.1 e, zbd_s, zif_neg (by decide), nI_1]
        refine ih r (pl + 1) (by omega) (by omega) (fun q hq => ?_)
        by_cases e2 : q = pl
        · rw [e2]; exact ⟨by omega, e⟩
        · exact hG q (by omega)
      · rw [hm.2 e, zbd_s, zif_pos rfl]
        exact ⟨some pl, rfl, ⟨hG, Or.inl ⟨by omega, e⟩⟩⟩
def dgv (x : Int32) : Nat := (x - 48).toNatClampNeg
theorem dgv_of {v : Nat} {x : Int32} (hv : v ≤ 10) (h : dgP v x) : dgv x < v ∧ x - 48 = nI (dgv x) := by
  obtain ⟨d, hd, rfl⟩ := h
  have e : nI (48 + d) - 48 = nI d := by rw [show (48 : Int32) = nI 48 from rfl, pk_sub (by omega), show 48 + d - 48 = d by omega]
  unfold dgv
  rw [e, zcl (by omega)]
  exact ⟨hd, rfl⟩
/-- the numbers that a whole text tells -/
def uP (u : Nat → Nat → Nat) (cd : Nat → Int32) (cnt : Nat) : Nat → Nat → Nat := fun f p => if f = 4 then dgv (cd (1 + p)) else if p < cnt then (if f = 0 then kdv (cd (4 + 5 * p + 1)) else dgv (cd (4 + 5 * p + 1 + f))) else u f p
theorem ok_w {pl : Nat} {x : Int32} (h : okP pl x) (h1 : 0 < pl) (h2 : pl < 4) : dgP 10 x := by
  unfold okP at h
  rw [if_neg (by omega), if_pos h2] at h
  exact h
theorem ok_p {p q : Nat} {x : Int32} (h : okP (4 + 5 * p + q) x) (hq : q < 5) (hp : p < 6) : (q = 0 → x = 59) ∧ (q = 1 → (x = 103 ∨ x = 104 ∨ x = 116)) ∧ (q = 3 → dgP 8 x) ∧ (q = 2 ∨ q = 4 → dgP 10 x) := by
  unfold okP at h
  rw [if_neg (by omega), if_neg (by omega), if_neg (by omega), show (4 + 5 * p + q - 4) % 5 = q by omega] at h
  refine ⟨fun e => ?_, fun e => ?_, fun e => ?_, fun e => ?_⟩
  · rw [if_pos e] at h; exact h
  · rw [if_neg (by omega), if_pos e] at h; exact h
  · rw [if_neg (by omega), if_neg (by omega), if_pos e] at h; exact h
  · rw [if_neg (by omega), if_neg (by omega), if_neg (by omega)] at h; exact h
theorem ok_34 {cd : Nat → Int32} {len : Nat} (h : ∀ q, q < len → okP q (cd q)) : len ≤ 34 := by
  rcases Nat.lt_or_ge 34 len with q | q
  · have := h 34 q
    unfold okP at this
    simp at this
  · exact q
theorem uP_B {u : Nat → Nat → Nat} {cd : Nat → Int32} {len T : Nat} (hT : 9 ≤ T) (hb : uB u T) (h : isFF cd len none) : uB (uP u cd ((len - 4) / 5)) T := by
  obtain ⟨h1, h2, h3⟩ := h
  have h34 := ok_34 h1
  refine ⟨fun p hp => ?_, fun m hm => ?_⟩
  · obtain ⟨k1, k2, k3, k4⟩ := hb.1 p hp
    by_cases e : p < (len - 4) / 5
    · have o2 := (ok_p (h1 (4 + 5 * p + 2) (by omega)) (by decide) hp).2.2.2 (Or.inl rfl)
      have o3 := (ok_p (h1 (4 + 5 * p + 3) (by omega)) (by decide) hp).2.2.1 rfl
      have o4 := (ok_p (h1 (4 + 5 * p + 4) (by omega)) (by decide) hp).2.2.2 (Or.inr rfl)
      have d2 := (dgv_of (by decide) o2).1
      have d3 := (dgv_of (by decide) o3).1
      have d4 := (dgv_of (by decide) o4).1
      have dk := kdv_lt (cd (4 + 5 * p + 1))
      have q0 : uP u cd ((len - 4) / 5) 0 p = kdv (cd (4 + 5 * p + 1)) := by unfold uP; rw [if_neg (by decide), if_pos e, if_pos rfl]
      have qf : ∀ g, g < 4 → 0 < g → uP u cd ((len - 4) / 5) g p = dgv (cd (4 + 5 * p + 1 + g)) := fun g h1 h2 => by unfold uP; rw [if_neg (by omega), if_pos e, if_neg (by omega)]
      refine ⟨by rw [q0]; exact dk, ?_, ?_, ?_⟩
      · rw [qf 1 (by decide) (by decide)]; show dgv (cd (4 + 5 * p + 2)) ≤ T; omega
      · rw [qf 2 (by decide) (by decide)]; exact d3
      · rw [qf 3 (by decide) (by decide)]; exact d4
    · have qf : ∀ g, g < 4 → uP u cd ((len - 4) / 5) g p = u g p := fun g h1 => by unfold uP; rw [if_neg (by omega), if_neg e]
      rw [qf 0 (by decide), qf 1 (by decide), qf 2 (by decide), qf 3 (by decide)]
      exact ⟨k1, k2, k3, k4⟩
  · unfold uP
    rw [if_pos rfl]
    exact (dgv_of (by decide) (ok_w (h1 (1 + m) (by omega)) (by omega) (by omega))).1
/-! ==== the class reads ==== -/
theorem read2_lx {n k b len : Nat} {u : Nat → Nat → Nat} {cd : Nat → Int32} {σ0 : zMem} {l2 : Int32} (hk : k < 4) (hb : b + len ≤ 60) (hcd : ∀ q, q < len → σ0 (2 + k + 4) (b + q) = cd q) (hff : isFF cd len none) : ∀ f r i (σ : zMem), i + r = (len - 4) / 5 → r < f → (∀ o, o < 10 ∨ 19 ≤ o → σ o = σ0 o) → σ 10 2 = nI ((len - 4) / 5) → uV 10 σ (uP u cd i) → ∃ σ', zlp (LX7_read_52 n (2 + k) 10) f (σ, nI b, l2, nI i) = some (0, σ') ∧ (∀ o, o < 10 ∨ 19 ≤ o → σ' o = σ0 o) ∧ σ' 10 2 = nI ((len - 4) / 5) ∧ uV 10 σ' (uP u cd ((len - 4) / 5)) := by
  obtain ⟨h1, h2, h3⟩ := hff
  have h34 := ok_34 h1
  intro f
  induction f with
  | zero => intro r i σ _ h; omega
  | succ f ih =>
    intro r i σ hr hf hσ hc hv
    rw [zlp_n]
    show ∃ σ', LBX7_read_52 n (2 + k) 10 _ σ (nI b) l2 (nI i) = _ ∧ _
    unfold LBX7_read_52
    rw [hc]
    cases r with
    | zero => exact ⟨σ, by rw [zif_pos (nI_le (by omega) (by omega))], hσ, hc, by rw [show (len - 4) / 5 = i by omega]; exact hv⟩
    | succ r =>
      have hi : i < 6 := by omega
      have ea : ∀ q : Nat, ((nI b + 4) + (nI i * 5)) + nI q = nI (b + (4 + 5 * i + q)) := fun q => by rw [show nI b + 4 = nI (b + 4) from nI_add b 4, show nI i * 5 = nI (i * 5) from pk_mul i 5, nI_add, nI_add]; congr 1; omega
      have o1 := (ok_p (h1 (4 + 5 * i + 1) (by omega)) (by decide) hi).2.1 rfl
      have o2 := (ok_p (h1 (4 + 5 * i + 2) (by omega)) (by decide) hi).2.2.2 (Or.inl rfl)
      have o3 := (ok_p (h1 (4 + 5 * i + 3) (by omega)) (by decide) hi).2.2.1 rfl
      have o4 := (ok_p (h1 (4 + 5 * i + 4) (by omega)) (by decide) hi).2.2.2 (Or.inr rfl)
      have cc : ∀ {τ : zMem}, (∀ o, o < 10 ∨ 19 ≤ o → τ o = σ0 o) → ∀ q, q < len → τ (2 + k + 4) (b + q) = cd q := fun hτ q hq => by rw [hτ _ (by omega)]; exact hcd q hq
      rw [zif_neg (nI_ge (by omega) (by omega)), zgd_in hi (by decide), show ((nI b + 4) + (nI i * 5)) + 1 = _ from ea 1, show ((nI b + 4) + (nI i * 5)) + 2 = _ from ea 2, show ((nI b + 4) + (nI i * 5)) + 3 = _ from ea 3, show ((nI b + 4) + (nI i * 5)) + 4 = _ from ea 4, zgd_in (show b + (4 + 5 * i + 1) < 60 by omega) (by decide), zcl (show b + (4 + 5 * i + 1) < 2 ^ 31 by omega), zcl (show b + (4 + 5 * i + 2) < 2 ^ 31 by omega), zcl (show b + (4 + 5 * i + 3) < 2 ^ 31 by omega), zcl (show b + (4 + 5 * i + 4) < 2 ^ 31 by omega), zcl (show i < 2 ^ 31 by omega), cc hσ _ (by omega), kindOf_t o1, zbd_s, zlet_s]
      generalize eσ1 : zst σ (10 + 3 + i) 0 (nI (kdv (cd (4 + 5 * i + 1)))) = σ1
      have s1 : ∀ o, o < 10 ∨ 19 ≤ o → σ1 o = σ0 o := fun o ho => by rw [← eσ1, zst_n (by omega)]; exact hσ o ho
      rw [zgd_n (show b + (4 + 5 * i + 2) < 60 by omega) (by decide), zlet_s, cc s1 _ (by omega), (dgv_of (by decide) o2).2]
      generalize eσ2 : zst σ1 (10 + 3 + i) 1 (nI (dgv (cd (4 + 5 * i + 2)))) = σ2
      have s2 : ∀ o, o < 10 ∨ 19 ≤ o → σ2 o = σ0 o := fun o ho => by rw [← eσ2, zst_n (by omega)]; exact s1 o ho
      rw [zgd_n (show b + (4 + 5 * i + 3) < 60 by omega) (by decide), zlet_s, cc s2 _ (by omega), (dgv_of (by decide) o3).2]
      generalize eσ3 : zst σ2 (10 + 3 + i) 2 (nI (dgv (cd (4 + 5 * i + 3)))) = σ3
      have s3 : ∀ o, o < 10 ∨ 19 ≤ o → σ3 o = σ0 o := fun o ho => by rw [← eσ3, zst_n (by omega)]; exact s2 o ho
      rw [zgd_n (show b + (4 + 5 * i + 4) < 60 by omega) (by decide), zlet_s, cc s3 _ (by omega), (dgv_of (by decide) o4).2, nI_1]
      generalize eσ4 : zst σ3 (10 + 3 + i) 3 (nI (dgv (cd (4 + 5 * i + 4)))) = σ4
      have s4 : ∀ o, o < 10 ∨ 19 ≤ o → σ4 o = σ0 o := fun o ho => by rw [← eσ4, zst_n (by omega)]; exact s3 o ho
      have e4 : ∀ o, o ≠ 10 + 3 + i → σ4 o = σ o := fun o ho => by rw [← eσ4, zst_n ho, ← eσ3, zst_n ho, ← eσ2, zst_n ho, ← eσ1, zst_n ho]
      refine ih r (i + 1) σ4 (by omega) (by omega) s4 (by rw [e4 10 (by omega)]; exact hc) ⟨fun p hp g hg => ?_, fun m hm => ?_⟩
      · by_cases e : p = i
        · subst e
          unfold uP
          rw [if_neg (by omega), if_pos (by omega)]
          rcases (show g = 0 ∨ g = 1 ∨ g = 2 ∨ g = 3 by omega) with rfl | rfl | rfl | rfl
          · rw [if_pos rfl, ← eσ4, zst_sn (by decide), ← eσ3, zst_sn (by decide), ← eσ2, zst_sn (by decide), ← eσ1, zst_ss]
          · rw [if_neg (by decide), ← eσ4, zst_sn (by decide), ← eσ3, zst_sn (by decide), ← eσ2, zst_ss]
          · rw [if_neg (by decide), ← eσ4, zst_sn (by decide), ← eσ3, zst_ss]
          · rw [if_neg (by decide), ← eσ4, zst_ss]
        · rw [e4 _ (by omega), hv.1 p hp g hg]
          unfold uP
          rw [if_neg (show ¬ g = 4 by omega), if_neg (show ¬ g = 4 by omega)]
          by_cases e2 : p < i
          · rw [if_pos e2, if_pos (show p < i + 1 by omega)]
          · rw [if_neg e2, if_neg (show ¬ p < i + 1 by omega)]
      · rw [e4 _ (by omega), hv.2 m hm]
        rfl
theorem read1_lx {n k b len : Nat} {u : Nat → Nat → Nat} {cd : Nat → Int32} {σ0 : zMem} (hn : 6 < n) (hk : k < 4) (hb : b + len ≤ 60) (hcd : ∀ q, q < len → σ0 (2 + k + 4) (b + q) = cd q) (hff : isFF cd len none) : ∀ f r i (σ : zMem), i + r = 3 → r < f → (∀ o, o < 10 ∨ 19 ≤ o → σ o = σ0 o) → (∀ p, p < 6 → ∀ g, g < 4 → σ (10 + 3 + p) g = nI (u g p)) → (∀ m, m < i → σ (10 + 1) m = nI (dgv (cd (1 + m)))) → ∃ σ', zlp (LX7_read_9 n (2 + k) 10) f (σ, nI b, nI len, nI i) = some (0, σ') ∧ (∀ o, o < 10 ∨ 19 ≤ o → σ' o = σ0 o) ∧ σ' 10 2 = nI ((len - 4) / 5) ∧ uV 10 σ' (uP u cd ((len - 4) / 5)) := by
  obtain ⟨h1, h2, h3⟩ := id hff
  intro f
  induction f with
  | zero => intro r i σ _ h; omega
  | succ f ih =>
    intro r i σ hr hf hσ hv hw
    rw [zlp_n]
    show ∃ σ', LBX7_read_9 n (2 + k) 10 _ σ (nI b) (nI len) (nI i) = _ ∧ _
    unfold LBX7_read_9
    cases r with
    | zero =>
      have ed : (nI len - 4) / 5 = nI ((len - 4) / 5) := by
        rw [show nI len - 4 = nI (len - 4) from pk_sub (b := 4) (by omega)]
        exact pk_div (d := 5) (by omega) (by decide) (by decide)
      rw [zif_pos (show (3 : Int32) ≤ nI i from nI_le (a := 3) (by omega) (by omega)), zlet_s, ed]
      have h34 := ok_34 h1
      refine read2_lx hk hb hcd hff n ((len - 4) / 5) 0 (zst σ 10 2 (nI ((len - 4) / 5))) (by omega) (by omega) (fun o ho => by rw [zst_n (by omega)]; exact hσ o ho) zst_ss ⟨fun p hp g hg => ?_, fun m hm => ?_⟩
      · rw [zst_n (by omega), hv p hp g hg]
        unfold uP
        rw [if_neg (by omega), if_neg (by omega)]
      · rw [zst_n (by omega), hw m (by omega)]
        rfl
    | succ r =>
      have o1 := ok_w (h1 (1 + i) (by omega)) (by omega) (by omega)
      rw [zif_neg (show ¬ (3 : Int32) ≤ nI i from nI_ge (b := 3) (by omega) (by omega)), nI_1, nI_add, zgd_in (show b + 1 + i < 60 by omega) (by decide), zgd_in (show i < 3 by omega) (by decide), zlet_s, zcl (by omega), zcl (by omega), hσ (2 + k + 4) (by omega), show b + 1 + i = b + (1 + i) by omega, hcd _ (by omega), (dgv_of (by decide) o1).2, nI_1]
      refine ih r (i + 1) _ (by omega) (by omega) (fun o ho => by rw [zst_n (by omega)]; exact hσ o ho) (fun p hp g hg => by rw [zst_n (by omega)]; exact hv p hp g hg) (fun m hm => ?_)
      by_cases e : m = i
      · rw [e, zst_ss]
      · rw [zst_sn e]; exact hw m (by omega)
