/-! The reference's searches, out of the lists. -/
theorem atF_spec {X : Nat → Nat → Int} {p x : Int} {nT : Nat} {l : List Int} (h : SL l nT (qal X p) (X 59)) : ∀ k, k ≤ nT → (∀ (i : Nat) (hi : i < l.length), x = i → ∀ t : Nat, l[i] = (t : Int) → atF X p x nT k = if t < k then (t : Int) else -1) ∧ ((x < 0 ∨ (l.length : Int) ≤ x) → atF X p x nT k = -1) := by
  have key : ∀ k, k < nT → qal X p k → ∃ (i : Nat) (hi : i < l.length), l[i] = (k : Int) ∧ cnF (aal X p (X 59 k)) nT = i := by
    intro k hk hq
    obtain ⟨i, hi, he⟩ := List.mem_iff_getElem.mp (h.2.1 k hk hq)
    refine ⟨i, hi, he, ?_⟩
    have h2 := SL_ahead h hi
    rw [he, Int.toNat_natCast] at h2
    exact h2
  intro k
  induction k with
  | zero =>
    intro _
    refine ⟨fun i hi hx t ht => ?_, fun _ => rfl⟩
    rw [if_neg (by omega)]; rfl
  | succ k ih =>
    intro hk
    obtain ⟨a1, a2⟩ := ih (by omega)
    constructor
    · intro i hi hx t ht
      unfold atF
      by_cases c : X 58 k = 1 ∧ X 57 k = p ∧ (cnF (aal X p (X 59 k)) nT : Int) = x
      · rw [if_pos c]
        obtain ⟨j, hj, e1, e2⟩ := key k (by omega) ⟨c.1, c.2.1⟩
        have hji : j = i := by have := c.2.2; omega
        subst hji
        rw [ht] at e1
        rw [if_pos (by omega)]
        omega
      · rw [if_neg c, a1 i hi hx t ht]
        by_cases htk : t < k
        · rw [if_pos htk, if_pos (by omega)]
        · rw [if_neg htk]
          by_cases hte : t = k
          · exfalso
            subst hte
            have hal := (h.1 (l[i]) (List.getElem_mem hi)).2.2
            rw [ht, Int.toNat_natCast] at hal
            obtain ⟨j, hj, e1, e2⟩ := key t (by omega) hal
            have hji : j = i := by
              have hnd := SL_nd h
              rw [← ht] at e1
              have hp := List.pairwise_iff_getElem.mp hnd
              rcases Nat.lt_trichotomy j i with q | q | q
              · exact absurd e1 (hp j i hj hi q)
              · exact q
              · exact absurd e1.symm (hp i j hi hj q)
            exact c ⟨hal.1, hal.2, by omega⟩
          · rw [if_neg (by omega)]
    · intro hx
      unfold atF
      rw [if_neg, a2 hx]
      intro c
      obtain ⟨j, hj, e1, e2⟩ := key k (by omega) ⟨c.1, c.2.1⟩
      have := c.2.2
      omega
theorem atF_get {X : Nat → Nat → Int} {p : Int} {nT : Nat} {l : List Int} (h : SL l nT (qal X p) (X 59)) {i : Nat} (hi : i < l.length) : atF X p i nT nT = l[i] := by
  obtain ⟨b1, b2, b3⟩ := h.1 (l[i]) (List.getElem_mem hi)
  have := (atF_spec (x := (i : Int)) h nT (Nat.le_refl _)).1 i hi rfl (l[i]).toNat (by omega)
  rw [this, if_pos (by omega)]
  omega
theorem atF_none {X : Nat → Nat → Int} {p x : Int} {nT : Nat} {l : List Int} (h : SL l nT (qal X p) (X 59)) (hx : x < 0 ∨ (l.length : Int) ≤ x) : atF X p x nT nT = -1 := (atF_spec h nT (Nat.le_refl _)).2 hx
theorem lgF_congr {f g : Nat → Nat} : ∀ k, (∀ i, i ≤ k → f i = g i) → lgF f k = lgF g k := by
  intro k
  induction k with
  | zero => intro _; rfl
  | succ k ih =>
    intro h
    unfold lgF
    rw [ih (fun i hi => h i (by omega)), h (k + 1) (by omega), h (lgF g k) (by have := lgF_r g k; omega)]
/-- the last of the list is the one with the latest stamp -/
theorem mxF_spec {X : Nat → Nat → Int} {p : Int} : ∀ k, (mxF X p k = -1 ∧ ∀ i, i < k → ¬ X 75 i = p) ∨ (∃ t : Nat, mxF X p k = t ∧ t < k ∧ X 75 t = p ∧ ∀ i, i < k → X 75 i = p → X 76 i ≤ X 76 t) := by
  intro k
  induction k with
  | zero => exact Or.inl ⟨rfl, fun i hi => by omega⟩
  | succ k ih =>
    unfold mxF
    rcases ih with ⟨h1, h2⟩ | ⟨t, h1, h2, h3, h4⟩
    · by_cases c : X 75 k = p
      · rw [if_pos ⟨c, Or.inl (by omega)⟩]
        refine Or.inr ⟨k, rfl, by omega, c, fun i hi hp => ?_⟩
        by_cases hik : i = k
        · subst hik; exact Int.le_refl _
        · exact absurd hp (h2 i (by omega))
      · rw [if_neg (fun q => c q.1)]
        refine Or.inl ⟨h1, fun i hi => ?_⟩
        by_cases hik : i = k
        · subst hik; exact c
        · exact h2 i (by omega)
    · rw [h1]
      by_cases c : X 75 k = p ∧ ((t : Int) < 0 ∨ X 76 ((t : Int)).toNat < X 76 k)
      · rw [if_pos c]
        refine Or.inr ⟨k, rfl, by omega, c.1, fun i hi hp => ?_⟩
        rw [Int.toNat_natCast] at c
        by_cases hik : i = k
        · subst hik; exact Int.le_refl _
        · have := h4 i (by omega) hp
          rcases c.2 with q | q <;> omega
      · rw [if_neg c]
        refine Or.inr ⟨t, rfl, by omega, h3, fun i hi hp => ?_⟩
        rw [Int.toNat_natCast] at c
        by_cases hik : i = k
        · subst hik
          by_cases hx : X 76 t < X 76 i
          · exact absurd ⟨hp, Or.inr hx⟩ c
          · omega
        · exact h4 i (by omega) hp
theorem mnF_spec {X : Nat → Nat → Int} {p : Int} : ∀ k, (mnF X p k = -1 ∧ ∀ i, i < k → ¬ X 75 i = p) ∨ (∃ t : Nat, mnF X p k = t ∧ t < k ∧ X 75 t = p ∧ ∀ i, i < k → X 75 i = p → X 76 t ≤ X 76 i) := by
  intro k
  induction k with
  | zero => exact Or.inl ⟨rfl, fun i hi => by omega⟩
  | succ k ih =>
    unfold mnF
    rcases ih with ⟨h1, h2⟩ | ⟨t, h1, h2, h3, h4⟩
    · by_cases c : X 75 k = p
      · rw [if_pos ⟨c, Or.inl (by omega)⟩]
        refine Or.inr ⟨k, rfl, by omega, c, fun i hi hp => ?_⟩
        by_cases hik : i = k
        · subst hik; exact Int.le_refl _
        · exact absurd hp (h2 i (by omega))
      · rw [if_neg (fun q => c q.1)]
        refine Or.inl ⟨h1, fun i hi => ?_⟩
        by_cases hik : i = k
        · subst hik; exact c
        · exact h2 i (by omega)
    · rw [h1]
      by_cases c : X 75 k = p ∧ ((t : Int) < 0 ∨ X 76 k < X 76 ((t : Int)).toNat)
      · rw [if_pos c]
        refine Or.inr ⟨k, rfl, by omega, c.1, fun i hi hp => ?_⟩
        rw [Int.toNat_natCast] at c
        by_cases hik : i = k
        · subst hik; exact Int.le_refl _
        · have := h4 i (by omega) hp
          rcases c.2 with q | q <;> omega
      · rw [if_neg c]
        refine Or.inr ⟨t, rfl, by omega, h3, fun i hi hp => ?_⟩
        rw [Int.toNat_natCast] at c
        by_cases hik : i = k
        · subst hik
          by_cases hx : X 76 i < X 76 t
          · exact absurd ⟨hp, Or.inr hx⟩ c
          · omega
        · exact h4 i (by omega) hp
theorem SL_lastmax {l : List Int} {x : Int} {N : Nat} {al : Nat → Prop} {st : Nat → Int} (h : SL (l ++ [x]) N al st) {i : Nat} (hi : i < N) (ha : al i) : st i ≤ st x.toNat := by
  have hm := h.2.1 i hi ha
  have hp := (List.pairwise_append.mp h.2.2).2.2
  rcases List.mem_append.mp hm with q | q
  · have := hp _ q x List.mem_cons_self
    rw [Int.toNat_natCast] at this
    omega
  · rw [← List.mem_singleton.mp q, Int.toNat_natCast]; exact Int.le_refl _
theorem SL_headmin {l : List Int} {x : Int} {N : Nat} {al : Nat → Prop} {st : Nat → Int} (h : SL (x :: l) N al st) {i : Nat} (hi : i < N) (ha : al i) : st x.toNat ≤ st i := by
  have hm := h.2.1 i hi ha
  have hp := (List.pairwise_cons.mp h.2.2).1
  rcases List.mem_cons.mp hm with q | q
  · rw [← q, Int.toNat_natCast]; exact Int.le_refl _
  · have := hp _ q
    rw [Int.toNat_natCast] at this
    omega
theorem mxF_last {X : Nat → Nat → Int} {p x : Int} {l : List Int} (h : SL (l ++ [x]) 10 (fun f => X 75 f = p) (X 76)) : mxF X p 10 = x := by
  obtain ⟨b1, b2, b3⟩ := h.1 x (List.mem_append_right _ List.mem_cons_self)
  rcases mxF_spec (X := X) (p := p) 10 with ⟨h1, h2⟩ | ⟨t, h1, h2, h3, h4⟩
  · exact absurd b3 (h2 _ (by omega))
  · have e1 := h4 x.toNat (by omega) b3
    have e2 := SL_lastmax h h2 h3
    have := SL_inj h h2 (by omega : x.toNat < 10) h3 b3 (by omega)
    omega
theorem mxF_nil {X : Nat → Nat → Int} {p : Int} (h : SL [] 10 (fun f => X 75 f = p) (X 76)) : mxF X p 10 = -1 := by
  rcases mxF_spec (X := X) (p := p) 10 with ⟨h1, h2⟩ | ⟨t, h1, h2, h3, h4⟩
  · exact h1
  · exact absurd (h.2.1 t h2 h3) (by simp)
theorem mnF_head {X : Nat → Nat → Int} {p x : Int} {l : List Int} (h : SL (x :: l) 10 (fun f => X 75 f = p) (X 76)) : mnF X p 10 = x := by
  obtain ⟨b1, b2, b3⟩ := h.1 x List.mem_cons_self
  rcases mnF_spec (X := X) (p := p) 10 with ⟨h1, h2⟩ | ⟨t, h1, h2, h3, h4⟩
  · exact absurd b3 (h2 _ (by omega))
  · have e1 := h4 x.toNat (by omega) b3
    have e2 := SL_headmin h h2 h3
    have := SL_inj h h2 (by omega : x.toNat < 10) h3 b3 (by omega)
    omega
theorem eaF_spec {X : Nat → Nat → Int} {b : Nat} : ∀ k, (eaF X b k = -1 ∧ ∀ i, i < k → ¬ kal X b i) ∨ (∃ t : Nat, eaF X b k = ((b + t : Nat) : Int) ∧ t < k ∧ kal X b t ∧ ∀ i, i < k → kal X b i → X 72 (b + t) ≤ X 72 (b + i)) := by
  intro k
  induction k with
  | zero => exact Or.inl ⟨rfl, fun i hi => by omega⟩
  | succ k ih =>
    unfold eaF
    rcases ih with ⟨h1, h2⟩ | ⟨t, h1, h2, h3, h4⟩
    · by_cases c : 0 < X 72 (b + k)
      · rw [if_pos ⟨c, Or.inl (by omega)⟩]
        refine Or.inr ⟨k, rfl, by omega, c, fun i hi hp => ?_⟩
        by_cases hik : i = k
        · subst hik; exact Int.le_refl _
        · exact absurd hp (h2 i (by omega))
      · rw [if_neg (fun q => c q.1)]
        refine Or.inl ⟨h1, fun i hi => ?_⟩
        by_cases hik : i = k
        · subst hik; exact c
        · exact h2 i (by omega)
    · rw [h1]
      by_cases c : 0 < X 72 (b + k) ∧ (((b + t : Nat) : Int) < 0 ∨ X 72 (b + k) < X 72 (((b + t : Nat) : Int)).toNat)
      · rw [if_pos c]
        refine Or.inr ⟨k, rfl, by omega, c.1, fun i hi hp => ?_⟩
        rw [Int.toNat_natCast] at c
        by_cases hik : i = k
        · subst hik; exact Int.le_refl _
        · have := h4 i (by omega) hp
          rcases c.2 with q | q <;> omega
      · rw [if_neg c]
        refine Or.inr ⟨t, rfl, by omega, h3, fun i hi hp => ?_⟩
        rw [Int.toNat_natCast] at c
        by_cases hik : i = k
        · subst hik
          by_cases hx : X 72 (b + i) < X 72 (b + t)
          · exact absurd ⟨hp, Or.inr hx⟩ c
          · omega
        · exact h4 i (by omega) hp
theorem eaF_head {X : Nat → Nat → Int} {b : Nat} {x : Int} {l : List Int} (h : SL (x :: l) 16 (kal X b) (fun g => X 72 (b + g))) : eaF X b 16 = b + x := by
  obtain ⟨b1, b2, b3⟩ := h.1 x List.mem_cons_self
  rcases eaF_spec (X := X) (b := b) 16 with ⟨h1, h2⟩ | ⟨t, h1, h2, h3, h4⟩
  · exact absurd b3 (h2 _ (by omega))
  · have e1 := h4 x.toNat (by omega) b3
    have e2 := SL_headmin h h2 h3
    have := SL_inj h h2 (by omega : x.toNat < 16) h3 b3 (by show X 72 (b + t) = X 72 (b + x.toNat); have : X 72 (b + x.toNat) ≤ X 72 (b + t) := e2; omega)
    omega
theorem smF_iff {X : Nat → Nat → Int} {f : Nat} : ∀ m, smF X f m = true ↔ ∃ q, q < m ∧ 0 ≤ X 68 (f + q) := by
  intro m
  induction m with
  | zero => simp [smF]
  | succ m ih =>
    unfold smF
    rw [Bool.or_eq_true, ih, decide_eq_true_iff]
    constructor
    · rintro (⟨q, h1, h2⟩ | h)
      · exact ⟨q, by omega, h2⟩
      · exact ⟨m, by omega, h⟩
    · rintro ⟨q, h1, h2⟩
      by_cases hq : q = m
      · subst hq; exact Or.inr h2
      · exact Or.inl ⟨q, by omega, h2⟩
theorem unF_iff {J : Nat → Nat → Int} : ∀ m f, unF J f m = true ↔ ∀ q, q < m → J 47 (f + q) = -1 := by
  intro m
  induction m with
  | zero => intro f; simp [unF]
  | succ m ih =>
    intro f
    unfold unF
    rw [Bool.and_eq_true, ih, decide_eq_true_iff]
    constructor
    · rintro ⟨h1, h2⟩ q hq
      cases q with
      | zero => exact h1
      | succ q => have := h2 q (by omega); rw [show f + (q + 1) = f + 1 + q by omega]; exact this
    · intro h
      exact ⟨h 0 (by omega), fun q hq => by have := h (q + 1) (by omega); rw [show f + (q + 1) = f + 1 + q by omega] at this; exact this⟩
