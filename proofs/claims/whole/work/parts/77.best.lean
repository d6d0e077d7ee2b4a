/-! ===== best ===== -/
abbrev bQ : Type := Option (Nat × Nat × Nat × Nat)
abbrev twP (c a b d : Nat) : Prop := (a = b ∧ a ≠ c) ∨ (a = d ∧ a ≠ c) ∨ (b = d ∧ b ≠ c)
def g1 (c a : Nat) : Nat := if a = c then 0 else 1
def gvN (c a b d : Nat) : Nat := g1 c a + g1 c b + g1 c d
def gaN (u : Nat → Nat → Nat) (c a m : Nat) : Nat := if a = c then 0 else brN u a m
def tgN (u : Nat → Nat → Nat) (c a b d : Nat) : Nat := gaN u c a 0 + gaN u c b 1 + gaN u c d 2
def kkN (c : Nat) : Nat := if c < 3 then c else 3
def rwI (c a : Nat) : Int32 := if a = c then -9 else nI a
/-- one more triple is looked at -/
def stB (u : Nat → Nat → Nat) (c : Nat) (o : bQ) (a b d : Nat) : bQ := if ¬ twP c a b d ∧ gvN c a b d = kkN c then (match o with
    | none => some (tgN u c a b d, a, b, d)
    | some q => if q.1 < tgN u c a b d then some (tgN u c a b d, a, b, d) else some q) else o
/-- the best of the first i triples, in their order -/
def bst (u : Nat → Nat → Nat) (c : Nat) : Nat → bQ
  | 0 => none
  | i + 1 => stB u c (bst u c i) (i / (c + 1) / (c + 1) % (c + 1)) (i / (c + 1) % (c + 1)) (i % (c + 1))
theorem g1_le {c a : Nat} : g1 c a ≤ 1 := by unfold g1; split <;> omega
theorem gaN_le {u : Nat → Nat → Nat} {T c a m : Nat} (hb : uB u T) (h6 : c ≤ 6) (ha : a ≤ c) (hm : m < 3) : gaN u c a m ≤ 162 := by
  unfold gaN
  split
  · omega
  · exact brN_le hb (by omega) hm
theorem tgN_le {u : Nat → Nat → Nat} {T c a b d : Nat} (hb : uB u T) (h6 : c ≤ 6) (ha : a ≤ c) (hb2 : b ≤ c) (hd : d ≤ c) : tgN u c a b d ≤ 486 := by
  have h1 := gaN_le hb h6 ha (show 0 < 3 by decide)
  have h2 := gaN_le hb h6 hb2 (show 1 < 3 by decide)
  have h3 := gaN_le hb h6 hd (show 2 < 3 by decide)
  unfold tgN
  omega
theorem gain_x {n T c a m : Nat} {σ : zMem} {u : Nat → Nat → Nat} (hc : σ 10 2 = nI c) (h6 : c ≤ 6) (hv : uV 10 σ u) (hb : uB u T) (ha : a ≤ c) (hm : m < 3) : FX1_gain n 10 σ (nI a) (nI m) = some (nI (gaN u c a m), σ) := by
  unfold FX1_gain gaN
  by_cases e : a = c
  · rw [hasPerson_out hc (Or.inr (nI_le (by omega) (by omega))), zbd_s, zif_pos rfl, if_pos e]; rfl
  · rw [hasPerson_in hc (show a < c by omega) (by omega), zbd_s, zif_neg (by decide), bringing_x hv hb (show a < 6 by omega) hm, zbd_s, if_neg e]
theorem consider_1 {n c a b d : Nat} {σ : zMem} (hc : σ 10 2 = nI c) (h6 : c ≤ 6) (ha : a ≤ c) (hb : b ≤ c) (hd : d ≤ c) : FX1_consider n 34 10 σ (nI a) (nI b) (nI d) = BX1_consider_45 n 34 10 σ (nI a) (nI b) (nI d) (nI c) (if twP c a b d then 1 else 0) := by
  unfold FX1_consider BX1_consider_18 BX1_consider_29 BX1_consider_40 BX1_consider_44
  rw [hc]
  have key : ∀ x y : Nat, x ≤ 6 → y ≤ 6 → ∀ {R : Type} {p q : Option R}, zif (nI x = nI y) p q = if x = y then p else q := fun x y hx hy R p q => by
    by_cases e : x = y
    · rw [zif_pos (by rw [e]), if_pos e]
    · rw [zif_neg (nI_ne (by omega) (by omega) e), if_neg e]
  rw [key a b (by omega) (by omega), key a c (by omega) (by omega), key a c (by omega) (by omega), key a d (by omega) (by omega), key b d (by omega) (by omega), key b c (by omega) (by omega)]
  generalize BX1_consider_45 n 34 10 σ (nI a) (nI b) (nI d) (nI c) = K
  unfold twP
  by_cases e1 : a = b
  · by_cases e4 : a = c
    · rw [if_pos e1, if_pos e4]
      by_cases e2 : a = d
      · rw [if_pos e2, if_pos e4, if_pos (show b = d by omega), if_pos (show b = c by omega), if_neg (by omega)]
      · rw [if_neg e2, if_neg (show ¬ b = d by omega), if_neg (by omega)]
    · rw [if_pos e1, if_neg e4, if_pos (Or.inl ⟨e1, e4⟩)]
  · rw [if_neg e1]
    by_cases e2 : a = d
    · by_cases e4 : a = c
      · rw [if_pos e2, if_pos e4, if_neg (show ¬ b = d by omega), if_neg (by omega)]
      · rw [if_pos e2, if_neg e4, if_pos (Or.inr (Or.inl ⟨e2, e4⟩))]
    · rw [if_neg e2]
      by_cases e3 : b = d
      · by_cases e4 : b = c
        · rw [if_pos e3, if_pos e4, if_neg (by omega)]
        · rw [if_pos e3, if_neg e4, if_pos (Or.inr (Or.inr ⟨e3, e4⟩))]
      · rw [if_neg e3, if_neg (by omega)]
theorem consider_2 {n c a b d : Nat} {σ : zMem} {w : Int32} (h6 : c ≤ 6) (ha : a ≤ c) (hb : b ≤ c) (hd : d ≤ c) : BX1_consider_45 n 34 10 σ (nI a) (nI b) (nI d) (nI c) w = BX1_consider_81 n 34 10 σ (nI a) (nI b) (nI d) (nI c) w (nI (g1 c a + g1 c b)) (nI (g1 c d)) := by
  have key : ∀ x y : Nat, x ≤ 6 → y ≤ 6 → ∀ {R : Type} {p q : Option R}, zif (nI x = nI y) p q = if x = y then p else q := fun x y hx hy R p q => by
    by_cases e : x = y
    · rw [zif_pos (by rw [e]), if_pos e]
    · rw [zif_neg (nI_ne (by omega) (by omega) e), if_neg e]
  unfold BX1_consider_45 BX1_consider_58 BX1_consider_69 g1
  rw [key a c (by omega) (by omega), key b c (by omega) (by omega), key b c (by omega) (by omega), key d c (by omega) (by omega), key d c (by omega) (by omega), key d c (by omega) (by omega), key d c (by omega) (by omega)]
  by_cases e1 : a = c
  · by_cases e2 : b = c
    · by_cases e3 : d = c
      · rw [if_pos e1, if_pos e2, if_pos e3, if_pos e1, if_pos e2, if_pos e3]; rfl
      · rw [if_pos e1, if_pos e2, if_neg e3, if_pos e1, if_pos e2, if_neg e3]; rfl
    · by_cases e3 : d = c
      · rw [if_pos e1, if_neg e2, if_pos e3, if_pos e1, if_neg e2, if_pos e3]; rfl
      · rw [if_pos e1, if_neg e2, if_neg e3, if_pos e1, if_neg e2, if_neg e3]; rfl
  · by_cases e2 : b = c
    · by_cases e3 : d = c
      · rw [if_neg e1, if_pos e2, if_pos e3, if_neg e1, if_pos e2, if_pos e3]; rfl
      · rw [if_neg e1, if_pos e2, if_neg e3, if_neg e1, if_pos e2, if_neg e3]; rfl
    · by_cases e3 : d = c
      · rw [if_neg e1, if_neg e2, if_pos e3, if_neg e1, if_neg e2, if_pos e3]; rfl
      · rw [if_neg e1, if_neg e2, if_neg e3, if_neg e1, if_neg e2, if_neg e3]; rfl
/-- what the class's rows hold -/
def xG (c : Nat) (σ : zMem) (o : bQ) : Prop := match o with
  | none => σ 34 1 = -1
  | some q => σ 34 1 = nI q.1 ∧ σ 35 0 = rwI c q.2.1 ∧ σ 35 1 = rwI c q.2.2.1 ∧ σ 35 2 = rwI c q.2.2.2
def xGI (u : Nat → Nat → Nat) (c : Nat) (σ0 σ : zMem) (o : bQ) : Prop := xK σ0 σ ∧ xG c σ o ∧ ∀ q, o = some q → q.1 ≤ 486
theorem consider_x {n T c a b d : Nat} {σ0 σ : zMem} {u : Nat → Nat → Nat} {o : bQ} (h0 : 2 ≤ c) (h6 : c ≤ 6) (hc : σ0 10 2 = nI c) (hv : uV 10 σ0 u) (hB : uB u T) (ha : a ≤ c) (hb : b ≤ c) (hd : d ≤ c) (hX : xGI u c σ0 σ o) : ∃ σ', FX1_consider n 34 10 σ (nI a) (nI b) (nI d) = some (0, σ') ∧ xGI u c σ0 σ' (stB u c o a b d) := by
  obtain ⟨x1, x2, x3⟩ := hX
  have c1 : σ 10 2 = nI c := by rw [x1 10 (by omega)]; exact hc
  have v1 : uV 10 σ u := uV_k hv (fun q h1 h2 => x1 q (by omega))
  have tg := tgN_le hB h6 ha hb hd
  rw [consider_1 c1 h6 ha hb hd, consider_2 h6 ha hb hd]
  unfold BX1_consider_81 stB
  by_cases e1 : twP c a b d
  · rw [if_pos e1, zif_neg (by decide), if_neg (fun z => z.1 e1)]
    exact ⟨σ, rfl, x1, x2, x3⟩
  have em : (if nI c < 3 then nI c else 3) = nI (kkN c) := by
    unfold kkN
    by_cases q : c < 3
    · rw [if_pos (show nI c < 3 from nI_lt (b := 3) q (by decide)), if_pos q]
    · rw [if_neg (show ¬ nI c < 3 from nI_nlt (b := 3) (by omega) (by omega)), if_neg q]; rfl
  have hgv : g1 c a + g1 c b + g1 c d = gvN c a b d := rfl
  have l1 := g1_le (c := c) (a := a)
  have l2 := g1_le (c := c) (a := b)
  have l3 := g1_le (c := c) (a := d)
  have lk : kkN c ≤ 3 := by unfold kkN; split <;> omega
  rw [if_neg e1, zif_pos rfl, em, nI_add, hgv]
  by_cases e2 : gvN c a b d = kkN c
  · rw [zif_pos (by rw [e2]), if_pos ⟨e1, e2⟩, show (0 : Int32) = nI 0 from rfl, gain_x c1 h6 v1 hB ha (by decide), zbd_s, show (1 : Int32) = nI 1 from rfl, gain_x c1 h6 v1 hB hb (by decide), zbd_s, show (2 : Int32) = nI 2 from rfl, gain_x c1 h6 v1 hB hd (by decide), zbd_s, nI_add, nI_add, show gaN u c a 0 + gaN u c b 1 + gaN u c d 2 = tgN u c a b d from rfl]
    have upd : ∃ σ', zlet (zst σ 34 1 (nI (tgN u c a b d))) (fun σ21 => zif (nI a = nI c) (BX1_consider_158 n 34 10 σ21 (nI a) (nI b) (nI d) (nI c) (nI 0) (nI (g1 c a + g1 c b + g1 c d)) (nI (tgN u c a b d)) (nI 0) (-9)) (BX1_consider_158 n 34 10 σ21 (nI a) (nI b) (nI d) (nI c) (nI 0) (nI (g1 c a + g1 c b + g1 c d)) (nI (tgN u c a b d)) (nI 0) (nI a))) = some (0, σ') ∧ xGI u c σ0 σ' (some (tgN u c a b d, a, b, d)) := by
      have r1 : ∀ (τ : zMem) (w : Int32), BX1_consider_158 n 34 10 τ (nI a) (nI b) (nI d) (nI c) (nI 0) (nI (g1 c a + g1 c b + g1 c d)) (nI (tgN u c a b d)) (nI 0) w = some (0, zst (zst (zst τ 35 0 w) 35 1 (rwI c b)) 35 2 (rwI c d)) := by
        intro τ w
        have cl : ∀ j : Nat, j < 3 → (nI j).toNatClampNeg = j := fun j hj => zcl (by omega)
        have r2 : ∀ (τ : zMem) (w : Int32), BX1_consider_176 n 34 10 τ (nI a) (nI b) (nI d) (nI c) (nI 0) (nI (g1 c a + g1 c b + g1 c d)) (nI (tgN u c a b d)) (1 : Int32) w = some (0, zst (zst τ 35 1 w) 35 2 (rwI c d)) := by
          intro τ w
          unfold BX1_consider_176 rwI
          rw [zgd_t (by decide), zlet_s, zlet_s, zlet_s]
          by_cases e : d = c
          · rw [zif_pos (by rw [e]), if_pos e]; rfl
          · rw [zif_neg (nI_ne (by omega) (by omega) e), if_neg e]; rfl
        unfold BX1_consider_158
        rw [zgd_in (show 0 < 3 by decide) (by decide), zlet_s, cl 0 (by decide), r2, r2]
        by_cases e : b = c
        · rw [zif_pos (by rw [e])]; unfold rwI; rw [if_pos e]
        · rw [zif_neg (nI_ne (by omega) (by omega) e)]; unfold rwI; rw [if_neg e]
      rw [zlet_s, r1, r1]
      have ea : zif (nI a = nI c) (some ((0 : Int32), zst (zst (zst (zst σ 34 1 (nI (tgN u c a b d))) 35 0 (-9)) 35 1 (rwI c b)) 35 2 (rwI c d))) (some (0, zst (zst (zst (zst σ 34 1 (nI (tgN u c a b d))) 35 0 (nI a)) 35 1 (rwI c b)) 35 2 (rwI c d))) = some (0, zst (zst (zst (zst σ 34 1 (nI (tgN u c a b d))) 35 0 (rwI c a)) 35 1 (rwI c b)) 35 2 (rwI c d)) := by
        unfold rwI
        by_cases e : a = c
        · rw [zif_pos (by rw [e]), if_pos e]
        · rw [zif_neg (nI_ne (by omega) (by omega) e), if_neg e]
      rw [ea]
      refine ⟨_, rfl, (((x1.st (by omega)).st (by omega)).st (by omega)).st (by omega), ⟨?_, ?_, ?_, zst_ss⟩, fun q hq => by cases hq; exact tg⟩
      · rw [zst_n (by decide), zst_n (by decide), zst_n (by decide), zst_ss]
      · rw [zst_sn (by decide), zst_sn (by decide), zst_ss]
      · rw [zst_sn (by decide), zst_ss]
    cases o with
    | none =>
      rw [show σ 34 1 = -1 from x2, zif_neg (show ¬ nI (tgN u c a b d) ≤ -1 from Int32.not_le.mpr (Int32.lt_of_lt_of_le (by decide) (nI_pos' (by omega))))]
      exact upd
    | some q =>
      have hq := x3 q rfl
      rw [x2.1]
      show ∃ σ', _ = some (0, σ') ∧ xGI u c σ0 σ' (if q.1 < tgN u c a b d then some (tgN u c a b d, a, b, d) else some q)
      by_cases e3 : q.1 < tgN u c a b d
      · rw [zif_neg (nI_ge e3 (by omega)), if_pos e3]
        exact upd
      · rw [zif_pos (nI_le (by omega) (by omega)), if_neg e3]
        exact ⟨σ, rfl, x1, x2, x3⟩
  · rw [zif_neg (nI_ne (by unfold gvN; omega) (by omega) e2), if_neg (fun z => e2 z.2)]
    exact ⟨σ, rfl, x1, x2, x3⟩
theorem dec_1 {N x d : Nat} (hd : d < N) : (x * N + d) % N = d ∧ (x * N + d) / N = x := by
  constructor
  · rw [Nat.mul_comm, Nat.mul_add_mod, Nat.mod_eq_of_lt hd]
  · rw [Nat.mul_comm, Nat.mul_add_div (by omega), Nat.div_eq_of_lt hd]; omega
theorem bst_s {u : Nat → Nat → Nat} {c a b d : Nat} (ha : a ≤ c) (hb : b ≤ c) (hd : d ≤ c) : bst u c ((a * (c + 1) + b) * (c + 1) + d + 1) = stB u c (bst u c ((a * (c + 1) + b) * (c + 1) + d)) a b d := by
  show stB u c _ _ _ _ = _
  rw [(dec_1 (show d < c + 1 by omega)).1, (dec_1 (show d < c + 1 by omega)).2, (dec_1 (show b < c + 1 by omega)).1, (dec_1 (show b < c + 1 by omega)).2, Nat.mod_eq_of_lt (show a < c + 1 by omega)]
theorem give_i {n T c a b : Nat} {σ0 : zMem} {u : Nat → Nat → Nat} {k12 : zMem × Int32 × Int32 → Option (Int32 × zMem)} {k20 : zMem × Int32 × Int32 × Int32 → Option (Int32 × zMem)} (h0 : 2 ≤ c) (h6 : c ≤ 6) (hc : σ0 10 2 = nI c) (hv : uV 10 σ0 u) (hB : uB u T) (ha : a ≤ c) (hb : b ≤ c) : ∀ f r d (σ : zMem), d + r = c + 1 → r < f → xGI u c σ0 σ (bst u c ((a * (c + 1) + b) * (c + 1) + d)) → ∃ σ', zlp (LX1_give_29 n 34 10 k12 k20) f (σ, nI c, nI a, nI b, nI d) = k20 (σ', nI c, nI a, nI b + 1) ∧ xGI u c σ0 σ' (bst u c ((a * (c + 1) + (b + 1)) * (c + 1))) := by
  intro f
  induction f with
  | zero => intro r d σ _ h; omega
  | succ f ih =>
    intro r d σ hr hf hX
    rw [zlp_n]
    show ∃ σ', LBX1_give_29 n 34 10 k12 k20 _ σ (nI c) (nI a) (nI b) (nI d) = _ ∧ _
    unfold LBX1_give_29
    cases r with
    | zero =>
      rw [show d = c + 1 by omega] at hX ⊢
      exact ⟨σ, by rw [zif_pos (nI_lt (by omega) (by omega))], by rw [show (a * (c + 1) + (b + 1)) * (c + 1) = (a * (c + 1) + b) * (c + 1) + (c + 1) from Nat.succ_mul _ _]; exact hX⟩
    | succ r =>
      obtain ⟨σ1, g1, g2⟩ := consider_x (n := n) h0 h6 hc hv hB ha hb (show d ≤ c by omega) hX
      rw [zif_neg (nI_nlt (by omega) (by omega)), g1, zbd_s, nI_1]
      exact ih r (d + 1) σ1 (by omega) (by omega) (by rw [← Nat.add_assoc, bst_s ha hb (by omega)]; exact g2)
theorem give_m {n T c a : Nat} {σ0 : zMem} {u : Nat → Nat → Nat} {k12 : zMem × Int32 × Int32 → Option (Int32 × zMem)} (hn : 8 < n) (h0 : 2 ≤ c) (h6 : c ≤ 6) (hc : σ0 10 2 = nI c) (hv : uV 10 σ0 u) (hB : uB u T) (ha : a ≤ c) : ∀ f r b (σ : zMem), b + r = c + 1 → r < f → xGI u c σ0 σ (bst u c ((a * (c + 1) + b) * (c + 1))) → ∃ σ', zlp (LX1_give_20 n 34 10 k12) f (σ, nI c, nI a, nI b) = k12 (σ', nI c, nI a + 1) ∧ xGI u c σ0 σ' (bst u c ((a + 1) * (c + 1) * (c + 1))) := by
  intro f
  induction f with
  | zero => intro r b σ _ h; omega
  | succ f ih =>
    intro r b σ hr hf hX
    rw [zlp_n]
    show ∃ σ', LBX1_give_20 n 34 10 k12 _ σ (nI c) (nI a) (nI b) = _ ∧ _
    unfold LBX1_give_20
    cases r with
    | zero =>
      rw [show b = c + 1 by omega] at hX ⊢
      exact ⟨σ, by rw [zif_pos (nI_lt (by omega) (by omega))], by rw [Nat.succ_mul]; exact hX⟩
    | succ r =>
      obtain ⟨σ1, g1, g2⟩ := give_i (n := n) (k12 := k12) (k20 := zlp (LX1_give_20 n 34 10 k12) f) h0 h6 hc hv hB ha (show b ≤ c by omega) n (c + 1) 0 σ (by omega) (by omega) hX
      rw [zif_neg (nI_nlt (by omega) (by omega)), show zlp (LX1_give_29 n 34 10 k12 (zlp (LX1_give_20 n 34 10 k12) f)) n (σ, nI c, nI a, nI b, 0) = _ from g1, nI_1 b]
      exact ih r (b + 1) σ1 (by omega) (by omega) g2
theorem give_o {n T c : Nat} {σ0 : zMem} {u : Nat → Nat → Nat} (hn : 8 < n) (h0 : 2 ≤ c) (h6 : c ≤ 6) (hc : σ0 10 2 = nI c) (hv : uV 10 σ0 u) (hB : uB u T) : ∀ f r a (σ : zMem), a + r = c + 1 → r < f → xGI u c σ0 σ (bst u c (a * (c + 1) * (c + 1))) → ∃ σ', zlp (LX1_give_12 n 34 10) f (σ, nI c, nI a) = some (0, σ') ∧ xGI u c σ0 σ' (bst u c ((c + 1) * (c + 1) * (c + 1))) := by
  intro f
  induction f with
  | zero => intro r a σ _ h; omega
  | succ f ih =>
    intro r a σ hr hf hX
    rw [zlp_n]
    show ∃ σ', LBX1_give_12 n 34 10 _ σ (nI c) (nI a) = _ ∧ _
    unfold LBX1_give_12
    cases r with
    | zero =>
      rw [show a = c + 1 by omega] at hX ⊢
      exact ⟨σ, by rw [zif_pos (nI_lt (by omega) (by omega))], hX⟩
    | succ r =>
      obtain ⟨σ1, g1, g2⟩ := give_m (n := n) (a := a) (k12 := zlp (LX1_give_12 n 34 10) f) hn h0 h6 hc hv hB (by omega) n (c + 1) 0 σ (by omega) (by omega) hX
      rw [zif_neg (nI_nlt (by omega) (by omega)), show zlp (LX1_give_20 n 34 10 (zlp (LX1_give_12 n 34 10) f)) n (σ, nI c, nI a, 0) = _ from g1, nI_1]
      exact ih r (a + 1) σ1 (by omega) (by omega) g2
