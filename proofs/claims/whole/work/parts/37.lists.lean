/-! What the lines and the buffers hold, as lists. -/
theorem ln_congr {J J' : Nat → Nat → Int} {a : Nat} (h1 : J' a 1 = J a 1) (h2 : J' (a + 1) = J (a + 1)) : ln J' a = ln J a := by
  unfold ln; rw [h1, h2]
theorem ln_len {J : Nat → Nat → Int} {a : Nat} : (ln J a).length = (J a 1).toNat := by simp [ln]
theorem ln_get {J : Nat → Nat → Int} {a i : Nat} (h : i < (ln J a).length) : (ln J a)[i] = J (a + 1) i := by simp [ln]
theorem ln_add {J : Nat → Nat → Int} {a : Nat} {x : Int} (h : 0 ≤ J a 1) : ln (adJ J a x) a = ln J a ++ [x] := by
  have e1 : adJ J a x a 1 = J a 1 + 1 := adJ_c
  have e2 : ∀ i, i < (J a 1).toNat → adJ J a x (a + 1) i = J (a + 1) i := fun i hi => by
    unfold adJ; rw [zU_ne (by omega), zU_k _ _ _ (by omega)]
  have e3 : adJ J a x (a + 1) (J a 1).toNat = x := by unfold adJ; rw [zU_ne (by omega), zU_s]
  unfold ln
  rw [e1, show (J a 1 + 1).toNat = (J a 1).toNat + 1 by omega, List.range_succ, List.map_append]
  congr 1
  · apply List.map_congr_left
    intro i hi
    exact e2 i (List.mem_range.mp hi)
  · simp [e3]
theorem ln_cons {J : Nat → Nat → Int} {a : Nat} (h : 0 < J a 1) : ln J a = J (a + 1) 0 :: ln (tfJ J a) a := by
  have e1 : tfJ J a a 1 = J a 1 - 1 := tfJ_c
  have e2 : ∀ i, i < (J a 1 - 1).toNat → tfJ J a (a + 1) i = J (a + 1) (i + 1) := fun i hi => by
    unfold tfJ zsh; rw [if_pos ⟨rfl, by omega, hi⟩, zU_ne (by omega)]
  unfold ln
  rw [e1, show (J a 1).toNat = (J a 1 - 1).toNat + 1 by omega, List.range_succ_eq_map, List.map_cons, List.map_map]
  congr 1
  apply List.map_congr_left
  intro i hi
  exact (e2 i (List.mem_range.mp hi)).symm
theorem ln_last {J : Nat → Nat → Int} {a : Nat} (h : 0 < J a 1) : ln J a = ln (zU J a 1 (J a 1 - 1)) a ++ [J (a + 1) (J a 1 - 1).toNat] := by
  unfold ln
  rw [zU_s, show (J a 1).toNat = (J a 1 - 1).toNat + 1 by omega, List.range_succ, List.map_append]
  congr 1
  apply List.map_congr_left
  intro i hi
  rw [zU_ne (by omega)]
theorem ln_nil {J : Nat → Nat → Int} {a : Nat} (h : J a 1 = 0) : ln J a = [] := by unfold ln; rw [h]; rfl
/-- the pages of a buffer -/
def bp (J : Nat → Nat → Int) (b : Nat) : List Int := (List.range (J b 2).toNat).map (J (b + 1))
/-- the entries go with the pages -/
def be (J : Nat → Nat → Int) (b : Nat) (E : Int → Int) : Prop := ∀ i : Nat, i < (J b 2).toNat → J (b + 2) i = E (J (b + 1) i)
theorem drF_spec {b : Nat} {f g : Int} : ∀ (m i kp : Nat) (J : Nat → Nat → Int), kp ≤ i →
    (∀ c, c ≠ b + 1 → c ≠ b + 2 → (drF b f g m i kp J).1 c = J c) ∧ kp ≤ (drF b f g m i kp J).2 ∧ (drF b f g m i kp J).2 ≤ kp + m ∧
    (∀ j, j < kp → (drF b f g m i kp J).1 (b + 1) j = J (b + 1) j ∧ (drF b f g m i kp J).1 (b + 2) j = J (b + 2) j) ∧
    (List.range (drF b f g m i kp J).2).map ((drF b f g m i kp J).1 (b + 1)) = (List.range kp).map (J (b + 1)) ++ ((List.range m).map (fun j => J (b + 1) (i + j))).filter (fun x => decide (x < f ∨ g ≤ x)) ∧
    (∀ E : Int → Int, (∀ j, j < kp → J (b + 2) j = E (J (b + 1) j)) → (∀ j, j < m → J (b + 2) (i + j) = E (J (b + 1) (i + j))) → ∀ j, j < (drF b f g m i kp J).2 → (drF b f g m i kp J).1 (b + 2) j = E ((drF b f g m i kp J).1 (b + 1) j)) := by
  intro m
  induction m with
  | zero =>
    intro i kp J hk
    refine ⟨fun c _ _ => rfl, Nat.le_refl _, Nat.le_refl _, fun j _ => ⟨rfl, rfl⟩, ?_, fun E h1 _ => h1⟩
    simp [drF]
  | succ m ih =>
    intro i kp J hk
    have hm : (List.range (m + 1)).map (fun j => J (b + 1) (i + j)) = J (b + 1) i :: (List.range m).map (fun j => J (b + 1) (i + 1 + j)) := by
      rw [List.range_succ_eq_map, List.map_cons, List.map_map]
      congr 1
      apply List.map_congr_left
      intro j _
      show J (b + 1) (i + (j + 1)) = J (b + 1) (i + 1 + j)
      rw [show i + (j + 1) = i + 1 + j by omega]
    by_cases c : J (b + 1) i < f ∨ g ≤ J (b + 1) i
    · have e0 : drF b f g (m + 1) i kp J = drF b f g m (i + 1) (kp + 1) (zU (zU J (b + 1) kp (J (b + 1) i)) (b + 2) kp (J (b + 2) i)) := by
        conv => lhs; unfold drF
        rw [if_pos c]
      rw [e0]
      have q1 : ∀ j, (zU (zU J (b + 1) kp (J (b + 1) i)) (b + 2) kp (J (b + 2) i)) (b + 1) j = if j = kp then J (b + 1) i else J (b + 1) j := fun j => by
        rw [zU_ne (by omega)]
        by_cases h : j = kp
        · subst h; rw [zU_s, if_pos rfl]
        · rw [zU_k _ _ _ h, if_neg h]
      have q2 : ∀ j, (zU (zU J (b + 1) kp (J (b + 1) i)) (b + 2) kp (J (b + 2) i)) (b + 2) j = if j = kp then J (b + 2) i else J (b + 2) j := fun j => by
        by_cases h : j = kp
        · subst h; rw [zU_s, if_pos rfl]
        · rw [zU_k _ _ _ h, if_neg h, zU_ne (by omega)]
      obtain ⟨a1, a2, a3, a4, a5, a6⟩ := ih (i + 1) (kp + 1) (zU (zU J (b + 1) kp (J (b + 1) i)) (b + 2) kp (J (b + 2) i)) (by omega)
      refine ⟨fun c h1 h2 => ?_, by omega, by omega, fun j hj => ?_, ?_, fun E h1 h2 => ?_⟩
      · rw [a1 c h1 h2, zU_ab _ _ _ h2, zU_ab _ _ _ h1]
      · obtain ⟨b1, b2⟩ := a4 j (by omega)
        rw [b1, b2, q1, q2, if_neg (by omega), if_neg (by omega)]
        exact ⟨rfl, rfl⟩
      · rw [a5, hm, List.filter_cons_of_pos (by simpa using c), List.range_succ, List.map_append]
        have w1 : (List.range kp).map ((zU (zU J (b + 1) kp (J (b + 1) i)) (b + 2) kp (J (b + 2) i)) (b + 1)) = (List.range kp).map (J (b + 1)) := by
          apply List.map_congr_left
          intro j hj
          rw [q1, if_neg (by have := List.mem_range.mp hj; omega)]
        have w2 : (List.range m).map (fun j => (zU (zU J (b + 1) kp (J (b + 1) i)) (b + 2) kp (J (b + 2) i)) (b + 1) (i + 1 + j)) = (List.range m).map (fun j => J (b + 1) (i + 1 + j)) := by
          apply List.map_congr_left
          intro j _
          rw [q1, if_neg (by omega)]
        rw [w1, w2, List.map_cons, List.map_nil, q1, if_pos rfl, List.append_assoc]
        rfl
      · refine a6 E (fun j hj => ?_) (fun j hj => ?_)
        · rw [q1, q2]
          by_cases h : j = kp
          · rw [if_pos h, if_pos h]
            have := h2 0 (by omega)
            rw [Nat.add_zero] at this; exact this
          · rw [if_neg h, if_neg h]; exact h1 j (by omega)
        · rw [q1, q2, if_neg (by omega), if_neg (by omega)]
          have := h2 (j + 1) (by omega)
          rw [show i + (j + 1) = i + 1 + j by omega] at this; exact this
    · have e0 : drF b f g (m + 1) i kp J = drF b f g m (i + 1) kp J := by
        conv => lhs; unfold drF
        rw [if_neg c]
      rw [e0]
      obtain ⟨a1, a2, a3, a4, a5, a6⟩ := ih (i + 1) kp J (by omega)
      refine ⟨a1, a2, by omega, a4, ?_, fun E h1 h2 => ?_⟩
      · rw [a5, hm, List.filter_cons_of_neg (by simpa using c)]
      · refine a6 E h1 (fun j hj => ?_)
        have := h2 (j + 1) (by omega)
        rw [show i + (j + 1) = i + 1 + j by omega] at this; exact this
theorem drJ_ne {J : Nat → Nat → Int} {b c j : Nat} {f g : Int} (h0 : c ≠ b) (h1 : c ≠ b + 1) (h2 : c ≠ b + 2) : drJ J b f g c j = J c j := by
  unfold drJ
  rw [zU_ne h0, (drF_spec (b := b) (f := f) (g := f + g) (J b 2).toNat 0 0 J (Nat.le_refl _)).1 c h1 h2]
theorem drJ_b {J : Nat → Nat → Int} {b : Nat} {f g : Int} : bp (drJ J b f g) b = (bp J b).filter (fun x => decide (x < f ∨ f + g ≤ x)) := by
  obtain ⟨a1, a2, a3, a4, a5, a6⟩ := drF_spec (b := b) (f := f) (g := f + g) (J b 2).toNat 0 0 J (Nat.le_refl _)
  unfold bp drJ
  rw [zU_s, zU_ab _ _ _ (by omega), Int.toNat_natCast, a5]
  simp
theorem drJ_e {J : Nat → Nat → Int} {b : Nat} {f g : Int} {E : Int → Int} (h : be J b E) : be (drJ J b f g) b E := by
  obtain ⟨a1, a2, a3, a4, a5, a6⟩ := drF_spec (b := b) (f := f) (g := f + g) (J b 2).toNat 0 0 J (Nat.le_refl _)
  intro i hi
  unfold drJ at hi ⊢
  rw [zU_s, Int.toNat_natCast] at hi
  rw [zU_ab _ _ _ (by omega), zU_ab _ _ _ (by omega)]
  exact a6 E (fun j hj => by omega) (fun j hj => by rw [Nat.zero_add]; exact h j hj) i hi
theorem drJ_c {J : Nat → Nat → Int} {b : Nat} {f g : Int} (hc : 0 ≤ J b 2) : 0 ≤ drJ J b f g b 2 ∧ drJ J b f g b 2 ≤ J b 2 ∧ drJ J b f g b 2 = (bp (drJ J b f g) b).length := by
  obtain ⟨a1, a2, a3, a4, a5, a6⟩ := drF_spec (b := b) (f := f) (g := f + g) (J b 2).toNat 0 0 J (Nat.le_refl _)
  have e : drJ J b f g b 2 = (drF b f (f + g) (J b 2).toNat 0 0 J).2 := by unfold drJ; rw [zU_s]
  refine ⟨by omega, by omega, ?_⟩
  unfold bp
  rw [e]
  simp
theorem bp_len {J : Nat → Nat → Int} {b : Nat} : (bp J b).length = (J b 2).toNat := by simp [bp]
theorem ptJ_b {J : Nat → Nat → Int} {b : Nat} {x y : Int} (h : 0 ≤ J b 2) : bp (ptJ J b x y) b = bp J b ++ [x] := by
  unfold bp ptJ
  rw [zU_s, show (J b 2 + 1).toNat = (J b 2).toNat + 1 by omega, List.range_succ, List.map_append]
  congr 1
  · apply List.map_congr_left
    intro i hi
    have := List.mem_range.mp hi
    rw [zU_ne (by omega), zU_ne (by omega), zU_k _ _ _ (by omega)]
  · rw [List.map_cons, List.map_nil, zU_ne (by omega), zU_ne (by omega), zU_s]
theorem ptJ_e {J : Nat → Nat → Int} {b : Nat} {x y : Int} {E : Int → Int} (h : 0 ≤ J b 2) (he : be J b E) (hx : y = E x) : be (ptJ J b x y) b E := by
  intro i hi
  unfold ptJ at hi ⊢
  rw [zU_s] at hi
  by_cases c : i = (J b 2).toNat
  · subst c
    rw [zU_ne (by omega), zU_s, zU_ne (by omega), zU_ne (by omega), zU_s]
    exact hx
  · rw [zU_ne (by omega), zU_k _ _ _ c, zU_ne (by omega), zU_ne (by omega), zU_ne (by omega), zU_k _ _ _ c]
    exact he i (by omega)
theorem ptJ_ne {J : Nat → Nat → Int} {b c j : Nat} {x y : Int} (h0 : c ≠ b) (h1 : c ≠ b + 1) (h2 : c ≠ b + 2) : ptJ J b x y c j = J c j := by
  unfold ptJ; rw [zU_ne h0, zU_ne h2, zU_ne h1]
theorem enF_spec {J : Nat → Nat → Int} {b : Nat} {x : Int} {E : Int → Int} : ∀ (m i : Nat), (∀ j, i ≤ j → j < i + m → J (b + 2) j = E (J (b + 1) j)) → ((∃ j, i ≤ j ∧ j < i + m ∧ J (b + 1) j = x) → enF J b x i m = E x) ∧ ((¬ ∃ j, i ≤ j ∧ j < i + m ∧ J (b + 1) j = x) → enF J b x i m = -1) := by
  intro m
  induction m with
  | zero =>
    intro i _
    exact ⟨fun ⟨j, h1, h2, _⟩ => by omega, fun _ => rfl⟩
  | succ m ih =>
    intro i h
    unfold enF
    by_cases c : J (b + 1) i = x
    · rw [if_pos c, h i (Nat.le_refl _) (by omega), c]
      exact ⟨fun _ => rfl, fun q => absurd ⟨i, Nat.le_refl _, by omega, c⟩ q⟩
    · rw [if_neg c]
      obtain ⟨a1, a2⟩ := ih (i + 1) (fun j h1 h2 => h j (by omega) (by omega))
      constructor
      · rintro ⟨j, h1, h2, h3⟩
        have hj : j ≠ i := fun q => by subst q; exact c h3
        exact a1 ⟨j, by omega, by omega, h3⟩
      · intro q
        exact a2 (fun ⟨j, h1, h2, h3⟩ => q ⟨j, by omega, by omega, h3⟩)
theorem enF_in {J : Nat → Nat → Int} {b : Nat} {x : Int} {E : Int → Int} (h : be J b E) : (x ∈ bp J b → enF J b x 0 (J b 2).toNat = E x) ∧ (x ∉ bp J b → enF J b x 0 (J b 2).toNat = -1) := by
  obtain ⟨a1, a2⟩ := enF_spec (x := x) (E := E) (J b 2).toNat 0 (fun j _ h2 => h j (by omega))
  have hb : x ∈ bp J b ↔ ∃ j, j < (J b 2).toNat ∧ J (b + 1) j = x := by
    unfold bp; rw [List.mem_map]
    constructor
    · rintro ⟨j, h2, h3⟩; exact ⟨j, List.mem_range.mp h2, h3⟩
    · rintro ⟨j, h2, h3⟩; exact ⟨j, List.mem_range.mpr h2, h3⟩
  constructor
  · intro q
    obtain ⟨j, h2, h3⟩ := hb.mp q
    exact a1 ⟨j, by omega, by omega, h3⟩
  · intro q
    exact a2 (fun ⟨j, _, h2, h3⟩ => q (hb.mpr ⟨j, by omega, h3⟩))
