/-! A list that holds the living numbers below N in the order of their stamps. -/
def SL (l : List Int) (N : Nat) (al : Nat → Prop) (st : Nat → Int) : Prop := (∀ x ∈ l, 0 ≤ x ∧ x < N ∧ al x.toNat) ∧ (∀ i : Nat, i < N → al i → (i : Int) ∈ l) ∧ l.Pairwise (fun x y => st x.toNat < st y.toNat)
theorem SL_nd {l : List Int} {N : Nat} {al : Nat → Prop} {st : Nat → Int} (h : SL l N al st) : l.Nodup := by
  have h3 := h.2.2
  refine h3.imp (fun hxy he => ?_)
  subst he
  omega
theorem SL_nil {N : Nat} {al : Nat → Prop} {st : Nat → Int} (h : ∀ i, i < N → ¬ al i) : SL [] N al st := ⟨fun x hx => (by cases hx), fun i hi ha => absurd ha (h i hi), List.Pairwise.nil⟩
theorem SL_congr {l : List Int} {N : Nat} {al al' : Nat → Prop} {st st' : Nat → Int} (h : SL l N al st) (ha : ∀ i, i < N → (al' i ↔ al i)) (hs : ∀ i, i < N → al i → st' i = st i) : SL l N al' st' := by
  obtain ⟨h1, h2, h3⟩ := h
  refine ⟨fun x hx => ?_, fun i hi hai => h2 i hi ((ha i hi).mp hai), ?_⟩
  · obtain ⟨a1, a2, a3⟩ := h1 x hx
    exact ⟨a1, a2, (ha _ (by omega)).mpr a3⟩
  · refine List.Pairwise.imp_of_mem (fun {x y} hx hy hxy => ?_) h3
    obtain ⟨a1, a2, a3⟩ := h1 x hx
    obtain ⟨b1, b2, b3⟩ := h1 y hy
    rw [hs _ (by omega) a3, hs _ (by omega) b3]
    exact hxy
/-- one more, with the latest stamp -/
theorem SL_add {l : List Int} {N t : Nat} {al al' : Nat → Prop} {st st' : Nat → Int} (h : SL l N al st) (ht : t < N) (hn : ¬ al t) (ha : ∀ i, i < N → (al' i ↔ (al i ∨ i = t))) (hs : ∀ i, i < N → i ≠ t → st' i = st i) (hm : ∀ i, i < N → al i → st i < st' t) : SL (l ++ [(t : Int)]) N al' st' := by
  obtain ⟨h1, h2, h3⟩ := h
  have hne : ∀ x ∈ l, x.toNat ≠ t := fun x hx he => by
    obtain ⟨a1, a2, a3⟩ := h1 x hx
    rw [he] at a3; exact hn a3
  refine ⟨fun x hx => ?_, fun i hi hai => ?_, ?_⟩
  · rcases List.mem_append.mp hx with hx | hx
    · obtain ⟨a1, a2, a3⟩ := h1 x hx
      exact ⟨a1, a2, (ha _ (by omega)).mpr (Or.inl a3)⟩
    · rw [List.mem_singleton.mp hx]
      exact ⟨by omega, by omega, (ha _ (by omega)).mpr (Or.inr (by omega))⟩
  · rcases (ha i hi).mp hai with q | q
    · exact List.mem_append_left _ (h2 i hi q)
    · subst q; exact List.mem_append_right _ List.mem_cons_self
  · rw [List.pairwise_append]
    refine ⟨?_, by simp, fun x hx y hy => ?_⟩
    · refine List.Pairwise.imp_of_mem (fun {x y} hx hy hxy => ?_) h3
      obtain ⟨a1, a2, a3⟩ := h1 x hx
      obtain ⟨b1, b2, b3⟩ := h1 y hy
      rw [hs _ (by omega) (hne x hx), hs _ (by omega) (hne y hy)]
      exact hxy
    · rw [List.mem_singleton.mp hy]
      obtain ⟨a1, a2, a3⟩ := h1 x hx
      rw [hs _ (by omega) (hne x hx), Int.toNat_natCast]
      exact hm _ (by omega) a3
/-- a part of the list: those that hold c -/
theorem SL_filter {l : List Int} {N : Nat} {al al' : Nat → Prop} {st : Nat → Int} (c : Int → Bool) (h : SL l N al st) (ha : ∀ i : Nat, i < N → (al' i ↔ (al i ∧ c i = true))) : SL (l.filter c) N al' st := by
  obtain ⟨h1, h2, h3⟩ := h
  refine ⟨fun x hx => ?_, fun i hi hai => ?_, h3.filter c⟩
  · obtain ⟨hx1, hx2⟩ := List.mem_filter.mp hx
    obtain ⟨a1, a2, a3⟩ := h1 x hx1
    refine ⟨a1, a2, (ha _ (by omega)).mpr ⟨a3, ?_⟩⟩
    rw [show ((x.toNat : Nat) : Int) = x by omega]; exact hx2
  · obtain ⟨b1, b2⟩ := (ha i hi).mp hai
    exact List.mem_filter.mpr ⟨h2 i hi b1, b2⟩
theorem SL_tail {x : Int} {l : List Int} {N : Nat} {al al' : Nat → Prop} {st : Nat → Int} (h : SL (x :: l) N al st) (ha : ∀ i : Nat, i < N → (al' i ↔ (al i ∧ (i : Int) ≠ x))) : SL l N al' st := by
  have hnd := SL_nd h
  have hf := SL_filter (al' := al') (fun y => !(y == x)) h (fun i hi => by rw [ha i hi]; simp)
  have he : (x :: l).filter (fun y => !(y == x)) = l := by
    rw [List.filter_cons_of_neg (by simp), List.filter_eq_self]
    intro y hy
    have : y ≠ x := fun q => (List.nodup_cons.mp hnd).1 (q ▸ hy)
    simpa using this
  rw [he] at hf
  exact hf
theorem SL_init {x : Int} {l : List Int} {N : Nat} {al al' : Nat → Prop} {st : Nat → Int} (h : SL (l ++ [x]) N al st) (ha : ∀ i : Nat, i < N → (al' i ↔ (al i ∧ (i : Int) ≠ x))) : SL l N al' st := by
  have hnd := SL_nd h
  have hf := SL_filter (al' := al') (fun y => !(y == x)) h (fun i hi => by rw [ha i hi]; simp)
  have he : (l ++ [x]).filter (fun y => !(y == x)) = l := by
    rw [List.filter_append, List.filter_cons_of_neg (by simp), List.filter_nil, List.append_nil, List.filter_eq_self]
    intro y hy
    have : y ≠ x := fun q => by
      subst q
      exact (List.nodup_append.mp hnd).2.2 y hy y List.mem_cons_self rfl
    simpa using this
  rw [he] at hf
  exact hf
/-- how many live below n -/
noncomputable def cnF (al : Nat → Prop) : Nat → Nat
  | 0 => 0
  | n + 1 => cnF al n + (@ite Nat (al n) (Classical.propDecidable _) 1 0)
theorem SL_len {al : Nat → Prop} {st : Nat → Int} : ∀ (N : Nat) (l : List Int), SL l N al st → l.length = cnF al N := by
  intro N
  induction N with
  | zero =>
    intro l h
    cases l with
    | nil => rfl
    | cons x l =>
      obtain ⟨a1, a2, a3⟩ := h.1 x List.mem_cons_self
      omega
  | succ N ih =>
    intro l h
    have hnd := SL_nd h
    by_cases ha : al N
    · have hm : (N : Int) ∈ l := h.2.1 N (by omega) ha
      have h2 : SL (l.erase (N : Int)) N al st := by
        refine ⟨fun x hx => ?_, fun i hi hai => ?_, h.2.2.sublist List.erase_sublist⟩
        · obtain ⟨hx1, hx2⟩ := (List.Nodup.mem_erase_iff hnd).mp hx
          obtain ⟨a1, a2, a3⟩ := h.1 x hx2
          exact ⟨a1, by omega, a3⟩
        · exact (List.Nodup.mem_erase_iff hnd).mpr ⟨by omega, h.2.1 i (by omega) hai⟩
      have h3 := ih _ h2
      rw [List.length_erase_of_mem hm] at h3
      have h4 : 0 < l.length := List.length_pos_of_mem hm
      unfold cnF
      rw [if_pos ha]
      omega
    · have h2 : SL l N al st := by
        refine ⟨fun x hx => ?_, fun i hi hai => h.2.1 i (by omega) hai, h.2.2⟩
        obtain ⟨a1, a2, a3⟩ := h.1 x hx
        refine ⟨a1, ?_, a3⟩
        have : x.toNat ≠ N := fun q => ha (q ▸ a3)
        omega
      unfold cnF
      rw [if_neg ha, ih _ h2]
      rfl
theorem cnF_congr {al al' : Nat → Prop} {n : Nat} (h : ∀ i, i < n → (al i ↔ al' i)) : cnF al n = cnF al' n := by
  induction n with
  | zero => rfl
  | succ n ih =>
    unfold cnF
    rw [ih (fun i hi => h i (by omega))]
    by_cases ha : al n
    · rw [if_pos ha, if_pos ((h n (by omega)).mp ha)]
    · rw [if_neg ha, if_neg (fun q => ha ((h n (by omega)).mpr q))]
/-- how many stand before the k-th -/
theorem SL_ahead {l : List Int} {N : Nat} {al : Nat → Prop} {st : Nat → Int} (h : SL l N al st) {k : Nat} (hk : k < l.length) : cnF (fun i => al i ∧ st i < st (l[k]).toNat) N = k := by
  have h2 : SL (l.take k) N (fun i => al i ∧ st i < st (l[k]).toNat) st := by
    have hp := h.2.2
    rw [List.pairwise_iff_getElem] at hp
    refine ⟨fun x hx => ?_, fun i hi hai => ?_, h.2.2.sublist (List.take_sublist _ _)⟩
    · obtain ⟨a1, a2, a3⟩ := h.1 x (List.mem_of_mem_take hx)
      refine ⟨a1, a2, a3, ?_⟩
      obtain ⟨j, hj, he⟩ := List.mem_iff_getElem.mp hx
      have hj2 : j < k := by simp at hj; omega
      rw [List.getElem_take] at he
      rw [← he]
      exact hp j k (by omega) hk hj2
    · obtain ⟨b1, b2⟩ := hai
      have hm := h.2.1 i hi b1
      obtain ⟨j, hj, he⟩ := List.mem_iff_getElem.mp hm
      have hjk : j < k := by
        rcases Nat.lt_trichotomy j k with q | q | q
        · exact q
        · subst q
          rw [he, Int.toNat_natCast] at b2
          omega
        · have := hp k j hk hj q
          rw [he, Int.toNat_natCast] at this
          omega
      rw [List.mem_iff_getElem]
      exact ⟨j, by simp; omega, by rw [List.getElem_take]; exact he⟩
  have h3 := SL_len N _ h2
  rw [← h3, List.length_take]
  omega
/-- a stamp lies before another's only if it stands before it -/
theorem SL_inj {l : List Int} {N : Nat} {al : Nat → Prop} {st : Nat → Int} (h : SL l N al st) {i j : Nat} (hi : i < N) (hj : j < N) (ai : al i) (aj : al j) (he : st i = st j) : i = j := by
  have hp := h.2.2
  rw [List.pairwise_iff_getElem] at hp
  obtain ⟨a, ha, e1⟩ := List.mem_iff_getElem.mp (h.2.1 i hi ai)
  obtain ⟨b, hb, e2⟩ := List.mem_iff_getElem.mp (h.2.1 j hj aj)
  rcases Nat.lt_trichotomy a b with q | q | q
  · have := hp a b ha hb q
    rw [e1, e2, Int.toNat_natCast, Int.toNat_natCast] at this
    omega
  · subst q
    rw [e1] at e2
    omega
  · have := hp b a hb ha q
    rw [e1, e2, Int.toNat_natCast, Int.toNat_natCast] at this
    omega
