/-! ===== what both memories hold, said once: numbers u (kind, asked, knows, wit, worth), c people, sheets, readings ===== -/
theorem zif_pos {R : Type} {c : Prop} [Decidable c] {a b : Option R} (h : c) : zif c a b = a := by simp [zif, h]
theorem zif_neg {R : Type} {c : Prop} [Decidable c] {a b : Option R} (h : ¬ c) : zif c a b = b := by simp [zif, h]
theorem zbd_s {V R : Type} {v : V} {σ : zMem} {k : V → zMem → Option R} : zbd (some (v, σ)) k = k v σ := rfl
theorem zlet_s {A R : Type} {x : A} {k : A → Option R} : zlet x k = k x := rfl
theorem zlp_n {S R : Type} {body : (S → Option R) → S → Option R} {n : Nat} {s : S} : zlp body (n + 1) s = body (zlp body n) s := rfl
theorem zgd_in {R : Type} {k : Option R} {j N : Nat} (h : j < N) (hN : N < 2 ^ 31) : zgd (¬ (nI j < 0 ∨ N ≤ (nI j).toNatClampNeg)) k = k := zgd_t (nI_in h hN)
theorem zgd_n {R : Type} {k : Option R} {j N : Nat} (h : j < N) (hN : N < 2 ^ 31) : zgd (¬ (nI j < 0 ∨ N ≤ j)) k = k := zgd_t (fun q => q.elim (nI_pos (by omega)) (fun z => by omega))
theorem li_0 : (0 : Int32) = nI 0 := rfl
theorem li_1 : (1 : Int32) = nI 1 := rfl
theorem li_2 : (2 : Int32) = nI 2 := rfl
theorem li_3 : (3 : Int32) = nI 3 := rfl
theorem li_4 : (4 : Int32) = nI 4 := rfl
theorem li_5 : (5 : Int32) = nI 5 := rfl
theorem li_6 : (6 : Int32) = nI 6 := rfl
theorem li_7 : (7 : Int32) = nI 7 := rfl
theorem li_8 : (8 : Int32) = nI 8 := rfl
theorem li_9 : (9 : Int32) = nI 9 := rfl
theorem li_10 : (10 : Int32) = nI 10 := rfl
theorem li_20 : (20 : Int32) = nI 20 := rfl
theorem li_60 : (60 : Int32) = nI 60 := rfl
theorem li_200 : (200 : Int32) = nI 200 := rfl
theorem zcl {j : Nat} (h : j < 2 ^ 31) : (nI j).toNatClampNeg = j := nI_clamp h
def uV (w : Nat) (σ : zMem) (u : Nat → Nat → Nat) : Prop := (∀ p, p < 6 → ∀ f, f < 4 → σ (w + 3 + p) f = nI (u f p)) ∧ ∀ m, m < 3 → σ (w + 1) m = nI (u 4 m)
def mV (σ : zMem) (u : Nat → Nat → Nat) : Prop := (∀ p, p < 6 → ∀ f, f < 4 → σ (5 + f) p = nI (u f p)) ∧ ∀ m, m < 3 → σ 4 m = nI (u 4 m)
def uB (u : Nat → Nat → Nat) (T : Nat) : Prop := (∀ p, p < 6 → u 0 p < 3 ∧ u 1 p ≤ T ∧ u 2 p < 8 ∧ u 3 p < 10) ∧ ∀ m, m < 3 → u 4 m < 10
def up2 (u : Nat → Nat → Nat) (f p v : Nat) : Nat → Nat → Nat := fun a b => if a = f ∧ b = p then v else u a b
def xS (σ : zMem) (so sn : Nat → Nat) (ce : Nat → Nat → Int32) : Prop := ∀ k, k < 4 → (σ (2 + k) 1 = if so k = 0 then 0 else 1) ∧ (so k ≠ 0 → σ (2 + k) 2 = nI (so k - 1)) ∧ σ (2 + k) 3 = nI (sn k) ∧ ∀ i, i < 60 → σ (2 + k + 4) i = ce k i
def mS (σ : zMem) (so sn : Nat → Nat) (ce : Nat → Nat → Int32) : Prop := ∀ k, k < 4 → (σ 1 k = if so k = 0 then (-9) else nI (so k - 1)) ∧ σ 2 k = nI (sn k) ∧ ∀ i, i < 60 → σ 3 (60 * k + i) = ce k i
def xR (σ : zMem) (rc : Nat) (rd : Nat → Nat → Nat) : Prop := σ 36 3 = nI rc ∧ ∀ q, q < rc → σ 37 q = nI (rd 0 q) ∧ σ 38 q = nI (rd 1 q) ∧ σ 39 q = nI (rd 2 q)
def mR (σ : zMem) (rc : Nat) (rd : Nat → Nat → Nat) : Prop := σ 0 28 = nI rc ∧ ∀ q, q < rc → σ 17 q = nI (rd 0 q) ∧ σ 18 q = nI (rd 1 q) ∧ σ 19 q = nI (rd 2 q)
def xC (σ : zMem) (c : Nat) (qs br ft tr : Int32) : Prop := σ 10 2 = nI c ∧ σ 0 8 = qs ∧ σ 0 9 = br ∧ σ 0 10 = ft ∧ σ 40 0 = tr
def mC (σ : zMem) (c : Nat) (qs br ft tr : Int32) : Prop := σ 0 5 = nI c ∧ σ 0 6 = qs ∧ σ 0 7 = br ∧ σ 0 0 = ft ∧ σ 0 1 = tr
def zI (t : Nat) (u : Nat → Nat → Nat) (c : Nat) (so sn : Nat → Nat) (rc : Nat) (rd : Nat → Nat → Nat) : Prop := (t ≤ 512 ∧ uB u (9 + t)) ∧ (c = 0 ∨ 2 ≤ c ∧ c ≤ 6) ∧ (∀ k, k < 4 → so k ≤ 3 ∧ sn k ≤ 60) ∧ rc ≤ 8 ∧ ∀ q, q < rc → rd 0 q < 6 ∧ rd 1 q < 3 ∧ rd 2 q ≤ 200
/-- the two memories agree, t calls having been made -/
def zR (t : Nat) (σx σm : zMem) : Prop := ∃ (u : Nat → Nat → Nat) (c : Nat) (so sn : Nat → Nat) (ce : Nat → Nat → Int32) (rc : Nat) (rd : Nat → Nat → Nat) (qs br ft tr : Int32), (xC σx c qs br ft tr ∧ uV 10 σx u ∧ xS σx so sn ce ∧ xR σx rc rd) ∧ (mC σm c qs br ft tr ∧ mV σm u ∧ mS σm so sn ce ∧ mR σm rc rd) ∧ (uB u (9 + t) ∧ (c = 0 ∨ 2 ≤ c ∧ c ≤ 6) ∧ (∀ k, k < 4 → so k ≤ 3 ∧ sn k ≤ 60) ∧ rc ≤ 8 ∧ ∀ q, q < rc → rd 0 q < 6 ∧ rd 1 q < 3 ∧ rd 2 q ≤ 200)
/-- both answer, and answer alike, and agree behind it -/
def zE {V : Type} (t : Nat) (fx fm : zMem → Option (V × zMem)) : Prop := ∀ σx σm, zR t σx σm → ∃ (r : V) (σx' σm' : zMem), fx σx = some (r, σx') ∧ fm σm = some (r, σm') ∧ zR (t + 1) σx' σm'
theorem uB_mono {u : Nat → Nat → Nat} {T T' : Nat} (h : uB u T) (hT : T ≤ T') : uB u T' := ⟨fun p hp => ⟨(h.1 p hp).1, Nat.le_trans (h.1 p hp).2.1 hT, (h.1 p hp).2.2⟩, h.2⟩
theorem zR_next {t : Nat} {σx σm : zMem} (h : zR t σx σm) : zR (t + 1) σx σm := by
  obtain ⟨u, c, so, sn, ce, rc, rd, qs, br, ft, tr, h1, h2, h3, h4⟩ := h
  exact ⟨u, c, so, sn, ce, rc, rd, qs, br, ft, tr, h1, h2, uB_mono h3 (by omega), h4⟩
/-! ==== frames: what a write leaves alone ==== -/
theorem xS_k {σ σ' : zMem} {so sn : Nat → Nat} {ce : Nat → Nat → Int32} (h : xS σ so sn ce) (e : ∀ o, 2 ≤ o → o < 10 → σ' o = σ o) : xS σ' so sn ce := by
  intro k hk
  obtain ⟨h1, h2, h3, h4⟩ := h k hk
  rw [e (2 + k) (by omega) (by omega), e (2 + k + 4) (by omega) (by omega)]
  exact ⟨h1, h2, h3, h4⟩
theorem uV_k {w : Nat} {σ σ' : zMem} {u : Nat → Nat → Nat} (h : uV w σ u) (e : ∀ o, w < o → o < w + 9 → σ' o = σ o) : uV w σ' u := ⟨fun p hp f hf => by rw [e _ (by omega) (by omega)]; exact h.1 p hp f hf, fun m hm => by rw [e _ (by omega) (by omega)]; exact h.2 m hm⟩
theorem xR_k {σ σ' : zMem} {rc : Nat} {rd : Nat → Nat → Nat} (h : xR σ rc rd) (e : ∀ o, 36 ≤ o → o < 40 → σ' o = σ o) : xR σ' rc rd := by
  unfold xR
  rw [e 36 (by omega) (by omega), e 37 (by omega) (by omega), e 38 (by omega) (by omega), e 39 (by omega) (by omega)]
  exact h
theorem xC_k {σ σ' : zMem} {c : Nat} {qs br ft tr : Int32} (h : xC σ c qs br ft tr) (e : ∀ o, o = 0 ∨ o = 10 ∨ o = 40 → σ' o = σ o) : xC σ' c qs br ft tr := by
  unfold xC
  rw [e 0 (by omega), e 10 (by omega), e 40 (by omega)]
  exact h
/-- the class's memory, scratch aside -/
def xK (σ σ' : zMem) : Prop := ∀ o, o < 19 ∨ 36 ≤ o → σ' o = σ o
theorem xK.rf {σ : zMem} : xK σ σ := fun _ _ => rfl
theorem xK.tr {a b c : zMem} (h : xK a b) (g : xK b c) : xK a c := fun o ho => (g o ho).trans (h o ho)
theorem xK.st {σ σ1 : zMem} {o k : Nat} {v : Int32} (h : xK σ σ1) (ho : 19 ≤ o ∧ o < 36) : xK σ (zst σ1 o k v) := fun a ha => by rw [zst_n (by omega)]; exact h a ha
theorem xK.sa {σ σ1 : zMem} {o : Nat} {r : Nat → Int32} (h : xK σ σ1) (ho : 19 ≤ o ∧ o < 36) : xK σ (zsa σ1 o r) := fun a ha => by rw [zsa_n (by omega)]; exact h a ha
/-- the reference's memory, scratch aside -/
def mK (σ σ' : zMem) : Prop := (∀ k, k < 8 ∨ k = 28 → σ' 0 k = σ 0 k) ∧ ∀ o, (1 ≤ o ∧ o < 9) ∨ 17 ≤ o → σ' o = σ o
theorem mK.rf {σ : zMem} : mK σ σ := ⟨fun _ _ => rfl, fun _ _ => rfl⟩
theorem mK.tr {a b c : zMem} (h : mK a b) (g : mK b c) : mK a c := ⟨fun k hk => (g.1 k hk).trans (h.1 k hk), fun o ho => (g.2 o ho).trans (h.2 o ho)⟩
theorem mK.st {σ σ1 : zMem} {o k : Nat} {v : Int32} (h : mK σ σ1) (ho : (9 ≤ o ∧ o < 17) ∨ (o = 0 ∧ 8 ≤ k ∧ k ≠ 28)) : mK σ (zst σ1 o k v) := by
  refine ⟨fun j hj => ?_, fun a ha => ?_⟩
  · by_cases h0 : o = 0
    · subst h0
      rw [zst_s]
      unfold upd
      rw [if_neg (by omega)]
      exact h.1 j hj
    · rw [zst_n (fun q => h0 q.symm)]
      exact h.1 j hj
  · rw [zst_n (by omega)]
    exact h.2 a ha
theorem zR_K {t : Nat} {σx σm σx' σm' : zMem} (h : zR t σx σm) (hx : xK σx σx') (hm : mK σm σm') : zR (t + 1) σx' σm' := by
  obtain ⟨u, c, so, sn, ce, rc, rd, qs, br, ft, tr, ⟨a1, a2, a3, a4⟩, ⟨b1, b2, b3, b4⟩, h3, h4⟩ := h
  refine ⟨u, c, so, sn, ce, rc, rd, qs, br, ft, tr, ⟨xC_k a1 (fun o ho => hx o (by omega)), uV_k a2 (fun o h1 h2 => hx o (by omega)), xS_k a3 (fun o h1 h2 => hx o (by omega)), xR_k a4 (fun o h1 h2 => hx o (by omega))⟩, ⟨?_, ?_, ?_, ?_⟩, uB_mono h3 (by omega), h4⟩
  · unfold mC
    rw [hm.1 5 (by omega), hm.1 6 (by omega), hm.1 7 (by omega), hm.1 0 (by omega), hm.1 1 (by omega)]
    exact b1
  · exact ⟨fun p hp f hf => by rw [hm.2 _ (by omega)]; exact b2.1 p hp f hf, fun m hm2 => by rw [hm.2 _ (by omega)]; exact b2.2 m hm2⟩
  · intro k hk
    rw [hm.2 1 (by omega), hm.2 2 (by omega), hm.2 3 (by omega)]
    exact b3 k hk
  · unfold mR
    rw [hm.1 28 (by omega), hm.2 17 (by omega), hm.2 18 (by omega), hm.2 19 (by omega)]
    exact b4
/-! ==== the little tests ==== -/
theorem isBelow_in {n j c : Nat} {σ : zMem} (h : j < c) (hc : c < 2 ^ 31) : FX9_isBelow n σ (nI j) (nI c) = some (1, σ) := by
  unfold FX9_isBelow
  rw [zif_neg (nI_pos (by omega)), zif_neg (nI_ge h hc)]
theorem isBelow_out {n c : Nat} {σ : zMem} {x : Int32} (h : x < 0 ∨ nI c ≤ x) : FX9_isBelow n σ x (nI c) = some (0, σ) := by
  unfold FX9_isBelow
  by_cases h0 : x < 0
  · rw [zif_pos h0]
  · rw [zif_neg h0, zif_pos (h.resolve_left h0)]
theorem hasPerson_in {n w j c : Nat} {σ : zMem} (hσ : σ w 2 = nI c) (h : j < c) (hc : c < 2 ^ 31) : FX4_hasPerson n w σ (nI j) = some (1, σ) := by
  unfold FX4_hasPerson
  rw [hσ, isBelow_in h hc, zbd_s, zgd_t (Or.inr rfl)]
theorem hasPerson_out {n w c : Nat} {σ : zMem} {x : Int32} (hσ : σ w 2 = nI c) (h : x < 0 ∨ nI c ≤ x) : FX4_hasPerson n w σ x = some (0, σ) := by
  unfold FX4_hasPerson
  rw [hσ, isBelow_out h, zbd_s, zgd_t (Or.inl rfl)]
theorem hasMatter_in {n w j c : Nat} {σ : zMem} (hσ : σ w 2 = nI c) (h : j < 3) (h0 : 0 < c) (hc : c < 2 ^ 31) : FX4_hasMatter n w σ (nI j) = some (1, σ) := by
  unfold FX4_hasMatter
  rw [hσ, zif_neg (nI_nle h0 hc), li_3, isBelow_in h (by omega), zbd_s, zif_neg (by decide)]
theorem hasMatter_out {n w c : Nat} {σ : zMem} {x : Int32} (hσ : σ w 2 = nI c) (h : c = 0 ∨ x < 0 ∨ nI 3 ≤ x) : FX4_hasMatter n w σ x = some (0, σ) := by
  unfold FX4_hasMatter
  by_cases h0 : σ w 2 ≤ 0
  · rw [zif_pos h0]
  · rw [zif_neg h0, li_3]
    rcases h with h | h
    · subst h
      rw [hσ] at h0
      exact absurd (by decide) h0
    · rw [isBelow_out h, zbd_s, zif_pos (by decide)]
theorem within_in {n a b j : Nat} {σ : zMem} (h : a ≤ j) (h2 : j ≤ b) (hb : b < 2 ^ 31) : FX10_within n σ (nI j) (nI a) (nI b) = some (1, σ) := by
  unfold FX10_within
  rw [zif_neg (nI_nlt h (by omega)), zif_neg (nI_nlt h2 hb)]
theorem within_out {n : Nat} {σ : zMem} {x a b : Int32} (h : x < a ∨ b < x) : FX10_within n σ x a b = some (0, σ) := by
  unfold FX10_within
  by_cases h0 : x < a
  · rw [zif_pos h0]
  · rw [zif_neg h0, zif_pos (h.resolve_left h0)]
theorem isPerson_in {n j c : Nat} {σ : zMem} (hσ : σ 0 5 = nI c) (h : j < c) (hc : c < 2 ^ 31) : FX10_isPerson n σ (nI j) = some (1, σ) := by
  unfold FX10_isPerson
  rw [hσ, zif_neg (nI_pos (by omega)), zif_neg (nI_ge h hc)]
theorem isPerson_out {n c : Nat} {σ : zMem} {x : Int32} (hσ : σ 0 5 = nI c) (h : x < 0 ∨ nI c ≤ x) : FX10_isPerson n σ x = some (0, σ) := by
  unfold FX10_isPerson
  rw [hσ]
  by_cases h0 : x < 0
  · rw [zif_pos h0]
  · rw [zif_neg h0, zif_pos (h.resolve_left h0)]
theorem isMatter_in {n j c : Nat} {σ : zMem} (hσ : σ 0 5 = nI c) (h : j < 3) (h0 : 0 < c) (hc : c < 2 ^ 31) : FX10_isMatter n σ (nI j) = some (1, σ) := by
  unfold FX10_isMatter
  rw [hσ, zif_neg (nI_nle h0 hc), zif_neg (nI_pos (by omega)), li_3, zif_neg (nI_ge h (by omega))]
theorem isMatter_out {n c : Nat} {σ : zMem} {x : Int32} (hσ : σ 0 5 = nI c) (h : c = 0 ∨ x < 0 ∨ nI 3 ≤ x) : FX10_isMatter n σ x = some (0, σ) := by
  unfold FX10_isMatter
  by_cases h0 : σ 0 5 ≤ 0
  · rw [zif_pos h0]
  · rw [zif_neg h0, li_3]
    by_cases h1 : x < 0
    · rw [zif_pos h1]
    · rw [zif_neg h1]
      rcases h with h | h | h
      · subst h
        rw [hσ] at h0
        exact absurd (by decide) h0
      · exact absurd h h1
      · rw [zif_pos h]
/-- an int against a bound: a number below it, or not -/
theorem z_cs (x : Int32) (c : Nat) (hc : c < 2 ^ 31) : (∃ j, j < c ∧ x = nI j) ∨ (x < 0 ∨ nI c ≤ x) := by
  rcases pk_ix x hc with h | h | h
  · exact Or.inr (Or.inl h)
  · exact Or.inr (Or.inr h)
  · exact Or.inl h
/-- as the reference asks it: up to b -/
theorem z_cs' {x : Int32} {b : Nat} (hb : b + 1 < 2 ^ 31) (h : x < 0 ∨ nI (b + 1) ≤ x) : x < nI 0 ∨ nI b < x := by
  rcases h with h | h
  · exact Or.inl h
  · exact Or.inr (Int32.lt_of_lt_of_le (nI_lt (by omega) hb) h)
