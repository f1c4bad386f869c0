/-! The relation: the class's part of J, the reference's part of X. nT threads; task t's cells at ta t, its orders at oa t k. -/
abbrev Mem : Type := Nat → Nat → Int
def oi (X : Mem) (t : Nat) : Nat := 10 * t + (X 51 t).toNat
def gS (nT : Nat) (J X : Mem) : Prop := J 1 1 = nT ∧ X 49 0 = nT ∧ J 1 7 = X 49 20 ∧ J 1 8 = X 49 21 ∧ J 1 9 = X 49 33 ∧ 0 ≤ X 49 21 ∧ X 49 21 ≤ X 49 20
def gW (J X : Mem) : Prop := ∀ f, f < 10 → J 46 f = X 71 f
def gT (J X : Mem) : Prop := ∀ g, g < 16 → (X 68 g = -1 ∨ (0 ≤ X 68 g ∧ X 68 g < 10)) ∧ (X 69 g = 0 ∨ X 69 g = 1) ∧ J 47 g = (if X 68 g < 0 then -1 else 2 * X 68 g + X 69 g)
def gE (J X : Mem) : Prop := ∀ g, g < 4 → J 48 g = X 70 g ∧ (X 70 g = 0 ∨ X 70 g = 1)
def gN (nT : Nat) (ta : Nat → Nat) (J X : Mem) : Prop := ∀ t, t < nT → J (ta t) 0 = t ∧ J (ta t) 2 = X 50 t ∧ J (ta t) 3 = X 51 t ∧ 0 ≤ X 51 t ∧ X 51 t ≤ X 50 t ∧ X 50 t ≤ 10
def OR (J X : Mem) (o i : Nat) : Prop := J o 0 = X 52 i ∧ 0 ≤ X 52 i ∧ X 52 i ≤ 5 ∧ (X 52 i = 5 → J o 3 = X 53 i ∧ 0 ≤ X 53 i ∧ X 53 i < 4) ∧ (¬ X 52 i = 5 → J o 1 = X 53 i ∧ J o 2 = X 54 i ∧ J o 3 = X 55 i ∧ 1 ≤ X 54 i ∧ X 54 i ≤ 4 ∧ 0 ≤ X 53 i ∧ X 53 i + X 54 i ≤ 16) ∧ (X 52 i = 2 → X 55 i = 0 ∨ X 55 i = 1)
def gO (nT : Nat) (oa : Nat → Nat → Nat) (J X : Mem) : Prop := ∀ t, t < nT → ∀ k : Nat, (k : Int) < X 50 t → OR J X (oa t k) (10 * t + k) ∧ ((k : Int) < X 51 t → J (oa t k) 4 = X 56 (10 * t + k))
def gH (nT : Nat) (ta : Nat → Nat) (J X : Mem) : Prop := ∀ t, t < nT → (X 58 t = 0 ∨ X 58 t = 1 ∨ X 58 t = 2) ∧ 0 ≤ X 57 t ∧ X 57 t < 4 ∧ (X 58 t = 0 ↔ X 51 t = X 50 t) ∧ (X 58 t = 0 → J (ta t) 4 = X 57 t)
def gC (nT : Nat) (J X : Mem) : Prop := ∀ p, p < 4 → J (4 + 10 * p) 0 = p ∧ -1 ≤ J (4 + 10 * p) 5 ∧ J (4 + 10 * p) 5 < nT ∧ ∀ t, t < nT → ((X 58 t = 2 ∧ X 57 t = p) ↔ J (4 + 10 * p) 5 = t)
def gQ (nT : Nat) (J X : Mem) : Prop := (∀ p, p < 4 → SL (ln J (4 + 10 * p + 8)) nT (qal X p) (X 59) ∧ 0 ≤ J (4 + 10 * p + 8) 1) ∧ ∀ t, t < nT → X 59 t ≤ X 49 11
def TH (J X : Mem) (a t i : Nat) : Prop := J a 5 = X 60 t ∧ (X 58 t = 1 → X 60 t = zfp (X 52 i)) ∧ (X 52 i ≤ 1 → 4 ≤ X 60 t ∧ X 60 t ≤ 6) ∧ (X 52 i = 5 → X 60 t = 15) ∧ (2 ≤ X 52 i → X 52 i ≤ 4 → 7 ≤ X 60 t ∧ X 60 t ≤ 14) ∧ (X 60 t = 9 → X 52 i = 2) ∧ (11 ≤ X 60 t → X 60 t ≤ 13 → ¬ X 52 i = 2) ∧ (X 60 t = 13 → X 52 i = 3)
  ∧ (8 ≤ X 60 t → X 60 t ≤ 14 → J a 7 = X 61 t ∧ X 49 21 ≤ X 61 t ∧ X 61 t < X 49 20) ∧ (9 ≤ X 60 t → X 60 t ≤ 14 → X 61 t = X 49 21)
  ∧ (7 ≤ X 60 t → X 60 t ≤ 9 → J a 6 = 0 ∧ X 62 t = 0 ∧ J a 9 = 0 ∧ X 64 t = 0 ∧ X 65 t = 0 ∧ X 67 t = 0)
  ∧ (X 60 t = 10 → J a 6 = X 62 t ∧ 0 ≤ X 62 t ∧ X 62 t < X 54 i ∧ J a 9 = X 64 t ∧ 0 ≤ X 64 t ∧ X 64 t ≤ X 62 t ∧ X 65 t = 0 ∧ X 67 t = (if X 52 i = 3 then X 64 t else 0))
  ∧ (X 60 t = 11 → J a 6 = X 62 t ∧ 0 ≤ X 62 t ∧ X 62 t < 4)
  ∧ (11 ≤ X 60 t → X 60 t ≤ 13 → J a 9 = X 64 t ∧ 0 < X 64 t ∧ X 64 t ≤ 4 ∧ X 65 t = 0 ∧ (X 52 i = 3 → X 67 t = X 64 t))
  ∧ (X 60 t = 13 → 0 ≤ X 62 t ∧ X 62 t < X 67 t) ∧ (X 60 t = 14 → J a 9 = (if X 65 t = 0 then X 64 t else -3) ∧ 0 ≤ X 64 t ∧ X 64 t ≤ 4) ∧ (X 60 t = 15 → J a 9 = 0) ∧ (X 60 t = 5 ∨ X 60 t = 6 → X 72 (16 * (X 57 t).toNat + (X 53 i).toNat) = 0)
def gP (nT : Nat) (ta : Nat → Nat) (J X : Mem) : Prop := ∀ t, t < nT → ¬ X 58 t = 0 → TH J X (ta t) t (oi X t)
def gD (nT : Nat) (X : Mem) : Prop := ∀ t u, t < nT → u < nT → t ≠ u → ¬ X 58 t = 0 → ¬ X 58 u = 0 → 8 ≤ X 60 t → X 60 t ≤ 14 → 8 ≤ X 60 u → X 60 u ≤ 14 → X 61 t ≠ X 61 u
def kb (X : Mem) (t : Nat) : Int := if X 60 t = 13 then X 62 t else 0
def kc (X : Mem) (t : Nat) : Int := if ¬ X 58 t = 0 ∧ X 52 (oi X t) = 3 ∧ 10 ≤ X 60 t ∧ X 60 t ≤ 13 then X 67 t - kb X t else 0
def kf (X : Mem) (t j : Nat) : Int := X 66 (4 * t + (kb X t).toNat + j)
def gK (nT : Nat) (ta : Nat → Nat) (J X : Mem) : Prop := ∀ t, t < nT → J (ta t + 2) 1 = kc X t ∧ ∀ j : Nat, (j : Int) < kc X t → J (ta t + 2 + 1) j = kf X t j
def gF (nT : Nat) (X : Mem) : Prop := (∀ f, f < 10 → -1 ≤ X 75 f ∧ X 75 f ≤ 4 ∧ X 76 f ≤ X 49 11) ∧ (∀ g, g < 16 → 0 ≤ X 68 g → X 75 (X 68 g).toNat = -1) ∧ (∀ g h, g < 16 → h < 16 → g ≠ h → 0 ≤ X 68 g → X 68 g ≠ X 68 h)
  ∧ ∀ t, t < nT → ∀ j : Nat, (j : Int) < kc X t → 0 ≤ kf X t j ∧ kf X t j < 10 ∧ X 75 (kf X t j).toNat = -1 ∧ (∀ g, g < 16 → X 68 g ≠ kf X t j) ∧ ∀ i : Nat, (i : Int) < kc X t → i ≠ j → kf X t i ≠ kf X t j
def gR (J X : Mem) : Prop := (∀ p, p < 4 → SL (ln J (4 + 10 * p + 4)) 10 (fun f => X 75 f = p) (X 76) ∧ 0 ≤ J (4 + 10 * p + 4) 1 ∧ J (4 + 10 * p + 4) 1 ≤ 2) ∧ SL (ln J 44) 10 (fun f => X 75 f = 4) (X 76) ∧ 0 ≤ J 44 1
def gM (nT : Nat) (J X : Mem) : Prop := ∀ t, t < nT → ¬ X 58 t = 0 → X 60 t = 10 → X 52 (oi X t) = 2 → X 54 (oi X t) - X 62 t ≤ J (4 + 10 * (X 57 t).toNat + 4) 1 + J 44 1
def oal (X : Mem) (t : Nat) (q : Nat) : Prop := X 77 q = 1 ∧ X 78 q = t
def gA (nT : Nat) (ta : Nat → Nat) (J X : Mem) : Prop := ∀ t, t < nT → J (ta t) 8 = X 63 t ∧ X 63 t = cnF (oal X t) 4
def gL (nT : Nat) (J X : Mem) : Prop := ∀ q, q < 4 → J (4 + 10 * q + 6) 1 = X 77 q ∧ (X 77 q = 0 ∨ X 77 q = 1) ∧ (X 77 q = 1 → J (4 + 10 * q + 6 + 1) 0 = X 78 q ∧ 0 ≤ X 78 q ∧ X 78 q < nT ∧ ¬ X 58 (X 78 q).toNat = 0 ∧ (X 60 (X 78 q).toNat = 11 ∨ X 60 (X 78 q).toNat = 12) ∧ (X 60 (X 78 q).toNat = 11 → (q : Int) < X 62 (X 78 q).toNat))
def ke (X : Mem) (p : Nat) (g : Int) : Int := 2 * X 73 (16 * p + g.toNat) + X 74 (16 * p + g.toNat)
def gB (J X : Mem) : Prop := ∀ p, p < 4 → SL (bp J (4 + 10 * p + 1)) 16 (kal X (16 * p)) (fun g => X 72 (16 * p + g)) ∧ be J (4 + 10 * p + 1) (ke X p) ∧ 0 ≤ J (4 + 10 * p + 1) 2 ∧ J (4 + 10 * p + 1) 2 ≤ 3 ∧ ∀ g, g < 16 → 0 ≤ X 72 (16 * p + g) ∧ X 72 (16 * p + g) ≤ X 49 11 ∧ (0 < X 72 (16 * p + g) → 0 ≤ X 73 (16 * p + g) ∧ X 73 (16 * p + g) < 10 ∧ (X 74 (16 * p + g) = 0 ∨ X 74 (16 * p + g) = 1))
def gU (B : Nat) (X : Mem) : Prop := 0 ≤ X 49 33 ∧ X 49 33 ≤ B ∧ 0 ≤ X 49 11 ∧ X 49 11 ≤ 3 * B + 10 ∧ X 49 20 ≤ B
def gZ (J X : Mem) : Prop := RG J ∧ RG X
/-- where the tasks' cells and the orders lie -/
def SH (K : Nat → Option ZK) (P : Nat → Nat → Option Nat) (n nT : Nat) (ta : Nat → Nat) (oa : Nat → Nat → Nat) (X : Mem) : Prop := krn K P ∧ msh K P ∧ nT ≤ 8 ∧ 79 ≤ n
  ∧ (∀ t, t < nT → P 2 t = some (ta t) ∧ ztask K P (ta t) ∧ 79 ≤ ta t ∧ ta t + 4 ≤ n)
  ∧ (∀ t u, t < nT → u < nT → t ≠ u → ta t + 4 ≤ ta u ∨ ta u + 4 ≤ ta t)
  ∧ (∀ t, t < nT → ∀ k : Nat, (k : Int) < X 50 t → P (ta t + 1) k = some (oa t k) ∧ K (oa t k) = some (.inl 4) ∧ 79 ≤ oa t k ∧ oa t k < n)
  ∧ (∀ t, t < nT → ∀ k : Nat, (k : Int) < X 50 t → ∀ u, u < nT → oa t k < ta u ∨ ta u + 4 ≤ oa t k)
  ∧ (∀ t u, t < nT → u < nT → ∀ k i : Nat, (k : Int) < X 50 t → (i : Int) < X 50 u → (t ≠ u ∨ k ≠ i) → oa t k ≠ oa u i)
def RR (B nT : Nat) (ta : Nat → Nat) (oa : Nat → Nat → Nat) (J X : Mem) : Prop := gS nT J X ∧ gW J X ∧ gT J X ∧ gE J X ∧ gN nT ta J X ∧ gO nT oa J X ∧ gH nT ta J X ∧ gC nT J X ∧ gQ nT J X ∧ gP nT ta J X ∧ gD nT X ∧ gK nT ta J X ∧ gF nT X ∧ gR J X ∧ gM nT J X ∧ gA nT ta J X ∧ gL nT J X ∧ gB J X ∧ gU B X ∧ gZ J X
section GC
variable {nT : Nat} {ta : Nat → Nat} {oa : Nat → Nat → Nat} {J J' X X' : Mem}
theorem gW_c (h : gW J X) (h1 : J' 46 = J 46) (h2 : X' 71 = X 71) : gW J' X' := by unfold gW; rw [h1, h2]; exact h
theorem gT_c (h : gT J X) (h1 : J' 47 = J 47) (h2 : X' 68 = X 68) (h3 : X' 69 = X 69) : gT J' X' := by unfold gT; rw [h1, h2, h3]; exact h
theorem gE_c (h : gE J X) (h1 : J' 48 = J 48) (h2 : X' 70 = X 70) : gE J' X' := by unfold gE; rw [h1, h2]; exact h
theorem gN_c (h : gN nT ta J X) (h1 : ∀ t, t < nT → J' (ta t) 0 = J (ta t) 0 ∧ J' (ta t) 2 = J (ta t) 2 ∧ J' (ta t) 3 = J (ta t) 3) (h2 : X' 50 = X 50) (h3 : X' 51 = X 51) : gN nT ta J' X' := by
  intro t ht; obtain ⟨a, b, c⟩ := h1 t ht; rw [a, b, c, h2, h3]; exact h t ht
theorem gO_c (h : gO nT oa J X) (h1 : ∀ t, t < nT → ∀ k : Nat, (k : Int) < X 50 t → J' (oa t k) = J (oa t k)) (x50 : X' 50 = X 50) (x51 : X' 51 = X 51) (x52 : X' 52 = X 52) (x53 : X' 53 = X 53) (x54 : X' 54 = X 54) (x55 : X' 55 = X 55) (x56 : X' 56 = X 56) : gO nT oa J' X' := by
  intro t ht k hk
  rw [x50] at hk
  have := h t ht k hk
  unfold OR at this ⊢
  rw [h1 t ht k hk, x51, x52, x53, x54, x55, x56]
  exact this
theorem gH_c (h : gH nT ta J X) (h1 : ∀ t, t < nT → J' (ta t) 4 = J (ta t) 4) (x50 : X' 50 = X 50) (x51 : X' 51 = X 51) (x57 : X' 57 = X 57) (x58 : X' 58 = X 58) : gH nT ta J' X' := by
  intro t ht; rw [h1 t ht, x50, x51, x57, x58]; exact h t ht
theorem gC_c (h : gC nT J X) (h1 : ∀ p, p < 4 → J' (4 + 10 * p) = J (4 + 10 * p)) (x57 : X' 57 = X 57) (x58 : X' 58 = X 58) : gC nT J' X' := by
  intro p hp; rw [h1 p hp, x57, x58]; exact h p hp
theorem gQ_c (h : gQ nT J X) (h1 : ∀ p, p < 4 → J' (4 + 10 * p + 8) = J (4 + 10 * p + 8) ∧ J' (4 + 10 * p + 8 + 1) = J (4 + 10 * p + 8 + 1)) (x57 : X' 57 = X 57) (x58 : X' 58 = X 58) (x59 : X' 59 = X 59) (hc : X 49 11 ≤ X' 49 11) : gQ nT J' X' := by
  refine ⟨fun p hp => ?_, fun t ht => ?_⟩
  · obtain ⟨a, b⟩ := h1 p hp
    have := h.1 p hp
    rw [ln_congr (J := J) (by rw [a]) b, a]
    unfold qal at this ⊢
    rw [x57, x58, x59]; exact this
  · have := h.2 t ht; rw [x59]; omega
theorem TH_c {a t i : Nat} (h : TH J X a t i) (j5 : J' a 5 = J a 5) (j6 : J' a 6 = J a 6) (j7 : J' a 7 = J a 7) (j9 : J' a 9 = J a 9) (x20 : X 49 20 ≤ X' 49 20) (x21 : X' 49 21 = X 49 21) (x52 : X' 52 i = X 52 i) (x54 : X' 54 i = X 54 i) (x58 : X' 58 t = X 58 t) (x60 : X' 60 t = X 60 t) (x61 : X' 61 t = X 61 t) (x62 : X' 62 t = X 62 t) (x64 : X' 64 t = X 64 t) (x65 : X' 65 t = X 65 t) (x67 : X' 67 t = X 67 t) (x72 : X 60 t = 5 ∨ X 60 t = 6 → X 72 (16 * (X 57 t).toNat + (X 53 i).toNat) = 0 → X' 72 (16 * (X' 57 t).toNat + (X' 53 i).toNat) = 0) : TH J' X' a t i := by
  obtain ⟨a1, a2, a3, a4, a5, a6, a7, a8, a9, a10, a11, a12, a13, a14, a15, a16, a17, a18⟩ := h
  unfold TH
  rw [j5, j6, j7, j9, x21, x52, x54, x58, x60, x61, x62, x64, x65, x67]
  exact ⟨a1, a2, a3, a4, a5, a6, a7, a8, fun q1 q2 => ⟨(a9 q1 q2).1, (a9 q1 q2).2.1, by have := (a9 q1 q2).2.2; omega⟩, a10, a11, a12, a13, a14, a15, a16, a17, fun q => x72 q (a18 q)⟩
theorem gK_c (h : gK nT ta J X) (h1 : ∀ t, t < nT → J' (ta t + 2) 1 = J (ta t + 2) 1 ∧ J' (ta t + 2 + 1) = J (ta t + 2 + 1)) (hc : ∀ t, t < nT → kc X' t = kc X t ∧ ∀ j : Nat, (j : Int) < kc X t → kf X' t j = kf X t j) : gK nT ta J' X' := by
  intro t ht
  obtain ⟨a, b⟩ := h1 t ht
  obtain ⟨c, e⟩ := hc t ht
  rw [a, b, c]
  exact ⟨(h t ht).1, fun j hj => by rw [e j hj]; exact (h t ht).2 j hj⟩
theorem gR_c (h : gR J X) (h1 : ∀ p, p < 4 → J' (4 + 10 * p + 4) = J (4 + 10 * p + 4) ∧ J' (4 + 10 * p + 4 + 1) = J (4 + 10 * p + 4 + 1)) (h2 : J' 44 = J 44) (h3 : J' 45 = J 45) (x75 : X' 75 = X 75) (x76 : X' 76 = X 76) : gR J' X' := by
  refine ⟨fun p hp => ?_, ?_⟩
  · obtain ⟨a, b⟩ := h1 p hp
    rw [ln_congr (J := J) (by rw [a]) b, a, x75, x76]; exact h.1 p hp
  · rw [ln_congr (J := J) (by rw [h2]) h3, h2, x75, x76]; exact h.2
theorem gL_c (h : gL nT J X) (h1 : ∀ q, q < 4 → J' (4 + 10 * q + 6) 1 = J (4 + 10 * q + 6) 1 ∧ J' (4 + 10 * q + 6 + 1) 0 = J (4 + 10 * q + 6 + 1) 0) (x58 : ∀ t, t < nT → ¬ X 58 t = 0 → X 60 t = 11 ∨ X 60 t = 12 → ¬ X' 58 t = 0) (x60 : ∀ t, t < nT → ¬ X 58 t = 0 → X 60 t = 11 ∨ X 60 t = 12 → (X' 60 t = X 60 t ∧ (X 60 t = 11 → X 62 t ≤ X' 62 t)) ∨ X' 60 t = 12) (x77 : X' 77 = X 77) (x78 : X' 78 = X 78) : gL nT J' X' := by
  intro q hq
  obtain ⟨a, b⟩ := h1 q hq
  obtain ⟨c1, c2, c3⟩ := h q hq
  rw [a, b, x77, x78]
  refine ⟨c1, c2, fun c => ?_⟩
  obtain ⟨d1, d2, d3, d4, d5, d6⟩ := c3 c
  have e1 := x58 (X 78 q).toNat (by omega) d4 d5
  have e2 := x60 (X 78 q).toNat (by omega) d4 d5
  refine ⟨d1, d2, d3, e1, ?_, ?_⟩
  · rcases e2 with e2 | e2
    · rw [e2.1]; exact d5
    · exact Or.inr e2
  · intro w
    rcases e2 with e2 | e2
    · rw [e2.1] at w
      have := d6 w
      have := e2.2 w
      omega
    · omega
theorem gB_c (h : gB J X) (h1 : ∀ p, p < 4 → J' (4 + 10 * p + 1) = J (4 + 10 * p + 1) ∧ J' (4 + 10 * p + 1 + 1) = J (4 + 10 * p + 1 + 1) ∧ J' (4 + 10 * p + 1 + 2) = J (4 + 10 * p + 1 + 2)) (x72 : X' 72 = X 72) (x73 : X' 73 = X 73) (x74 : X' 74 = X 74) (hc : X 49 11 ≤ X' 49 11) : gB J' X' := by
  intro p hp
  obtain ⟨a, b, c⟩ := h1 p hp
  obtain ⟨b1, b2, b3, b4, b5⟩ := h p hp
  unfold bp be kal ke at *
  rw [a, b, c, x72, x73, x74]
  exact ⟨b1, b2, b3, b4, fun g hg => ⟨(b5 g hg).1, by have := (b5 g hg).2.1; omega, (b5 g hg).2.2⟩⟩
theorem gA_c (h : gA nT ta J X) (h1 : ∀ t, t < nT → J' (ta t) 8 = J (ta t) 8) (x63 : X' 63 = X 63) (x77 : X' 77 = X 77) (x78 : X' 78 = X 78) : gA nT ta J' X' := by
  intro t ht
  have := h t ht
  unfold oal at this ⊢
  rw [h1 t ht, x63, x77, x78]; exact this
end GC
