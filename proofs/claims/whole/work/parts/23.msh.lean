/-! The shape of the reference's object: at 49, its rows at 50 to 78. -/
def msh (K : Nat → Option ZK) (P : Nat → Nat → Option Nat) : Prop := K 49 = some (.inl 6) ∧ P 49 1 = some 50 ∧ K 50 = some (.inr (0, 8)) ∧ P 49 2 = some 51 ∧ K 51 = some (.inr (0, 8)) ∧ P 49 3 = some 52 ∧ K 52 = some (.inr (0, 80)) ∧ P 49 4 = some 53 ∧ K 53 = some (.inr (0, 80)) ∧ P 49 5 = some 54 ∧ K 54 = some (.inr (0, 80)) ∧ P 49 6 = some 55 ∧ K 55 = some (.inr (0, 80)) ∧ P 49 7 = some 56 ∧ K 56 = some (.inr (0, 80)) ∧ P 49 8 = some 57 ∧ K 57 = some (.inr (0, 8)) ∧ P 49 9 = some 58 ∧ K 58 = some (.inr (0, 8)) ∧ P 49 10 = some 59 ∧ K 59 = some (.inr (0, 8)) ∧ P 49 12 = some 60 ∧ K 60 = some (.inr (0, 8)) ∧ P 49 13 = some 61 ∧ K 61 = some (.inr (0, 8)) ∧ P 49 14 = some 62 ∧ K 62 = some (.inr (0, 8)) ∧ P 49 15 = some 63 ∧ K 63 = some (.inr (0, 8)) ∧ P 49 16 = some 64 ∧ K 64 = some (.inr (0, 8)) ∧ P 49 17 = some 65 ∧ K 65 = some (.inr (1, 8)) ∧ P 49 18 = some 66 ∧ K 66 = some (.inr (0, 32)) ∧ P 49 19 = some 67 ∧ K 67 = some (.inr (0, 8)) ∧ P 49 22 = some 68 ∧ K 68 = some (.inr (0, 16)) ∧ P 49 23 = some 69 ∧ K 69 = some (.inr (1, 16)) ∧ P 49 24 = some 70 ∧ K 70 = some (.inr (1, 4)) ∧ P 49 25 = some 71 ∧ K 71 = some (.inr (0, 10)) ∧ P 49 26 = some 72 ∧ K 72 = some (.inr (0, 64)) ∧ P 49 27 = some 73 ∧ K 73 = some (.inr (0, 64)) ∧ P 49 28 = some 74 ∧ K 74 = some (.inr (1, 64)) ∧ P 49 29 = some 75 ∧ K 75 = some (.inr (0, 10)) ∧ P 49 30 = some 76 ∧ K 76 = some (.inr (0, 10)) ∧ P 49 31 = some 77 ∧ K 77 = some (.inr (1, 4)) ∧ P 49 32 = some 78 ∧ K 78 = some (.inr (0, 4))
theorem ms_k49 {K : Nat → Option ZK} {P : Nat → Nat → Option Nat} (h : msh K P) : K 49 = some (.inl 6) := h.1
theorem ms_p1 {K : Nat → Option ZK} {P : Nat → Nat → Option Nat} (h : msh K P) : P 49 1 = some 50 := h.2.1
theorem ms_k50 {K : Nat → Option ZK} {P : Nat → Nat → Option Nat} (h : msh K P) : K 50 = some (.inr (0, 8)) := h.2.2.1
theorem ms_p2 {K : Nat → Option ZK} {P : Nat → Nat → Option Nat} (h : msh K P) : P 49 2 = some 51 := h.2.2.2.1
theorem ms_k51 {K : Nat → Option ZK} {P : Nat → Nat → Option Nat} (h : msh K P) : K 51 = some (.inr (0, 8)) := h.2.2.2.2.1
theorem ms_p3 {K : Nat → Option ZK} {P : Nat → Nat → Option Nat} (h : msh K P) : P 49 3 = some 52 := h.2.2.2.2.2.1
theorem ms_k52 {K : Nat → Option ZK} {P : Nat → Nat → Option Nat} (h : msh K P) : K 52 = some (.inr (0, 80)) := h.2.2.2.2.2.2.1
theorem ms_p4 {K : Nat → Option ZK} {P : Nat → Nat → Option Nat} (h : msh K P) : P 49 4 = some 53 := h.2.2.2.2.2.2.2.1
theorem ms_k53 {K : Nat → Option ZK} {P : Nat → Nat → Option Nat} (h : msh K P) : K 53 = some (.inr (0, 80)) := h.2.2.2.2.2.2.2.2.1
theorem ms_p5 {K : Nat → Option ZK} {P : Nat → Nat → Option Nat} (h : msh K P) : P 49 5 = some 54 := h.2.2.2.2.2.2.2.2.2.1
theorem ms_k54 {K : Nat → Option ZK} {P : Nat → Nat → Option Nat} (h : msh K P) : K 54 = some (.inr (0, 80)) := h.2.2.2.2.2.2.2.2.2.2.1
theorem ms_p6 {K : Nat → Option ZK} {P : Nat → Nat → Option Nat} (h : msh K P) : P 49 6 = some 55 := h.2.2.2.2.2.2.2.2.2.2.2.1
theorem ms_k55 {K : Nat → Option ZK} {P : Nat → Nat → Option Nat} (h : msh K P) : K 55 = some (.inr (0, 80)) := h.2.2.2.2.2.2.2.2.2.2.2.2.1
theorem ms_p7 {K : Nat → Option ZK} {P : Nat → Nat → Option Nat} (h : msh K P) : P 49 7 = some 56 := h.2.2.2.2.2.2.2.2.2.2.2.2.2.1
theorem ms_k56 {K : Nat → Option ZK} {P : Nat → Nat → Option Nat} (h : msh K P) : K 56 = some (.inr (0, 80)) := h.2.2.2.2.2.2.2.2.2.2.2.2.2.2.1
theorem ms_p8 {K : Nat → Option ZK} {P : Nat → Nat → Option Nat} (h : msh K P) : P 49 8 = some 57 := h.2.2.2.2.2.2.2.2.2.2.2.2.2.2.2.1
theorem ms_k57 {K : Nat → Option ZK} {P : Nat → Nat → Option Nat} (h : msh K P) : K 57 = some (.inr (0, 8)) := h.2.2.2.2.2.2.2.2.2.2.2.2.2.2.2.2.1
theorem ms_p9 {K : Nat → Option ZK} {P : Nat → Nat → Option Nat} (h : msh K P) : P 49 9 = some 58 := h.2.2.2.2.2.2.2.2.2.2.2.2.2.2.2.2.2.1
theorem ms_k58 {K : Nat → Option ZK} {P : Nat → Nat → Option Nat} (h : msh K P) : K 58 = some (.inr (0, 8)) := h.2.2.2.2.2.2.2.2.2.2.2.2.2.2.2.2.2.2.1
theorem ms_p10 {K : Nat → Option ZK} {P : Nat → Nat → Option Nat} (h : msh K P) : P 49 10 = some 59 := h.2.2.2.2.2.2.2.2.2.2.2.2.2.2.2.2.2.2.2.1
theorem ms_k59 {K : Nat → Option ZK} {P : Nat → Nat → Option Nat} (h : msh K P) : K 59 = some (.inr (0, 8)) := h.2.2.2.2.2.2.2.2.2.2.2.2.2.2.2.2.2.2.2.2.1
theorem ms_p12 {K : Nat → Option ZK} {P : Nat → Nat → Option Nat} (h : msh K P) : P 49 12 = some 60 := h.2.2.2.2.2.2.2.2.2.2.2.2.2.2.2.2.2.2.2.2.2.1
theorem ms_k60 {K : Nat → Option ZK} {P : Nat → Nat → Option Nat} (h : msh K P) : K 60 = some (.inr (0, 8)) := h.2.2.2.2.2.2.2.2.2.2.2.2.2.2.2.2.2.2.2.2.2.2.1
theorem ms_p13 {K : Nat → Option ZK} {P : Nat → Nat → Option Nat} (h : msh K P) : P 49 13 = some 61 := h.2.2.2.2.2.2.2.2.2.2.2.2.2.2.2.2.2.2.2.2.2.2.2.1
theorem ms_k61 {K : Nat → Option ZK} {P : Nat → Nat → Option Nat} (h : msh K P) : K 61 = some (.inr (0, 8)) := h.2.2.2.2.2.2.2.2.2.2.2.2.2.2.2.2.2.2.2.2.2.2.2.2.1
theorem ms_p14 {K : Nat → Option ZK} {P : Nat → Nat → Option Nat} (h : msh K P) : P 49 14 = some 62 := h.2.2.2.2.2.2.2.2.2.2.2.2.2.2.2.2.2.2.2.2.2.2.2.2.2.1
theorem ms_k62 {K : Nat → Option ZK} {P : Nat → Nat → Option Nat} (h : msh K P) : K 62 = some (.inr (0, 8)) := h.2.2.2.2.2.2.2.2.2.2.2.2.2.2.2.2.2.2.2.2.2.2.2.2.2.2.1
theorem ms_p15 {K : Nat → Option ZK} {P : Nat → Nat → Option Nat} (h : msh K P) : P 49 15 = some 63 := h.2.2.2.2.2.2.2.2.2.2.2.2.2.2.2.2.2.2.2.2.2.2.2.2.2.2.2.1
theorem ms_k63 {K : Nat → Option ZK} {P : Nat → Nat → Option Nat} (h : msh K P) : K 63 = some (.inr (0, 8)) := h.2.2.2.2.2.2.2.2.2.2.2.2.2.2.2.2.2.2.2.2.2.2.2.2.2.2.2.2.1
theorem ms_p16 {K : Nat → Option ZK} {P : Nat → Nat → Option Nat} (h : msh K P) : P 49 16 = some 64 := h.2.2.2.2.2.2.2.2.2.2.2.2.2.2.2.2.2.2.2.2.2.2.2.2.2.2.2.2.2.1
theorem ms_k64 {K : Nat → Option ZK} {P : Nat → Nat → Option Nat} (h : msh K P) : K 64 = some (.inr (0, 8)) := h.2.2.2.2.2.2.2.2.2.2.2.2.2.2.2.2.2.2.2.2.2.2.2.2.2.2.2.2.2.2.1
theorem ms_p17 {K : Nat → Option ZK} {P : Nat → Nat → Option Nat} (h : msh K P) : P 49 17 = some 65 := h.2.2.2.2.2.2.2.2.2.2.2.2.2.2.2.2.2.2.2.2.2.2.2.2.2.2.2.2.2.2.2.1
theorem ms_k65 {K : Nat → Option ZK} {P : Nat → Nat → Option Nat} (h : msh K P) : K 65 = some (.inr (1, 8)) := h.2.2.2.2.2.2.2.2.2.2.2.2.2.2.2.2.2.2.2.2.2.2.2.2.2.2.2.2.2.2.2.2.1
theorem ms_p18 {K : Nat → Option ZK} {P : Nat → Nat → Option Nat} (h : msh K P) : P 49 18 = some 66 := h.2.2.2.2.2.2.2.2.2.2.2.2.2.2.2.2.2.2.2.2.2.2.2.2.2.2.2.2.2.2.2.2.2.1
theorem ms_k66 {K : Nat → Option ZK} {P : Nat → Nat → Option Nat} (h : msh K P) : K 66 = some (.inr (0, 32)) := h.2.2.2.2.2.2.2.2.2.2.2.2.2.2.2.2.2.2.2.2.2.2.2.2.2.2.2.2.2.2.2.2.2.2.1
theorem ms_p19 {K : Nat → Option ZK} {P : Nat → Nat → Option Nat} (h : msh K P) : P 49 19 = some 67 := h.2.2.2.2.2.2.2.2.2.2.2.2.2.2.2.2.2.2.2.2.2.2.2.2.2.2.2.2.2.2.2.2.2.2.2.1
theorem ms_k67 {K : Nat → Option ZK} {P : Nat → Nat → Option Nat} (h : msh K P) : K 67 = some (.inr (0, 8)) := h.2.2.2.2.2.2.2.2.2.2.2.2.2.2.2.2.2.2.2.2.2.2.2.2.2.2.2.2.2.2.2.2.2.2.2.2.1
theorem ms_p22 {K : Nat → Option ZK} {P : Nat → Nat → Option Nat} (h : msh K P) : P 49 22 = some 68 := h.2.2.2.2.2.2.2.2.2.2.2.2.2.2.2.2.2.2.2.2.2.2.2.2.2.2.2.2.2.2.2.2.2.2.2.2.2.1
theorem ms_k68 {K : Nat → Option ZK} {P : Nat → Nat → Option Nat} (h : msh K P) : K 68 = some (.inr (0, 16)) := h.2.2.2.2.2.2.2.2.2.2.2.2.2.2.2.2.2.2.2.2.2.2.2.2.2.2.2.2.2.2.2.2.2.2.2.2.2.2.1
theorem ms_p23 {K : Nat → Option ZK} {P : Nat → Nat → Option Nat} (h : msh K P) : P 49 23 = some 69 := h.2.2.2.2.2.2.2.2.2.2.2.2.2.2.2.2.2.2.2.2.2.2.2.2.2.2.2.2.2.2.2.2.2.2.2.2.2.2.2.1
theorem ms_k69 {K : Nat → Option ZK} {P : Nat → Nat → Option Nat} (h : msh K P) : K 69 = some (.inr (1, 16)) := h.2.2.2.2.2.2.2.2.2.2.2.2.2.2.2.2.2.2.2.2.2.2.2.2.2.2.2.2.2.2.2.2.2.2.2.2.2.2.2.2.1
theorem ms_p24 {K : Nat → Option ZK} {P : Nat → Nat → Option Nat} (h : msh K P) : P 49 24 = some 70 := h.2.2.2.2.2.2.2.2.2.2.2.2.2.2.2.2.2.2.2.2.2.2.2.2.2.2.2.2.2.2.2.2.2.2.2.2.2.2.2.2.2.1
theorem ms_k70 {K : Nat → Option ZK} {P : Nat → Nat → Option Nat} (h : msh K P) : K 70 = some (.inr (1, 4)) := h.2.2.2.2.2.2.2.2.2.2.2.2.2.2.2.2.2.2.2.2.2.2.2.2.2.2.2.2.2.2.2.2.2.2.2.2.2.2.2.2.2.2.1
theorem ms_p25 {K : Nat → Option ZK} {P : Nat → Nat → Option Nat} (h : msh K P) : P 49 25 = some 71 := h.2.2.2.2.2.2.2.2.2.2.2.2.2.2.2.2.2.2.2.2.2.2.2.2.2.2.2.2.2.2.2.2.2.2.2.2.2.2.2.2.2.2.2.1
theorem ms_k71 {K : Nat → Option ZK} {P : Nat → Nat → Option Nat} (h : msh K P) : K 71 = some (.inr (0, 10)) := h.2.2.2.2.2.2.2.2.2.2.2.2.2.2.2.2.2.2.2.2.2.2.2.2.2.2.2.2.2.2.2.2.2.2.2.2.2.2.2.2.2.2.2.2.1
theorem ms_p26 {K : Nat → Option ZK} {P : Nat → Nat → Option Nat} (h : msh K P) : P 49 26 = some 72 := h.2.2.2.2.2.2.2.2.2.2.2.2.2.2.2.2.2.2.2.2.2.2.2.2.2.2.2.2.2.2.2.2.2.2.2.2.2.2.2.2.2.2.2.2.2.1
theorem ms_k72 {K : Nat → Option ZK} {P : Nat → Nat → Option Nat} (h : msh K P) : K 72 = some (.inr (0, 64)) := h.2.2.2.2.2.2.2.2.2.2.2.2.2.2.2.2.2.2.2.2.2.2.2.2.2.2.2.2.2.2.2.2.2.2.2.2.2.2.2.2.2.2.2.2.2.2.1
theorem ms_p27 {K : Nat → Option ZK} {P : Nat → Nat → Option Nat} (h : msh K P) : P 49 27 = some 73 := h.2.2.2.2.2.2.2.2.2.2.2.2.2.2.2.2.2.2.2.2.2.2.2.2.2.2.2.2.2.2.2.2.2.2.2.2.2.2.2.2.2.2.2.2.2.2.2.1
theorem ms_k73 {K : Nat → Option ZK} {P : Nat → Nat → Option Nat} (h : msh K P) : K 73 = some (.inr (0, 64)) := h.2.2.2.2.2.2.2.2.2.2.2.2.2.2.2.2.2.2.2.2.2.2.2.2.2.2.2.2.2.2.2.2.2.2.2.2.2.2.2.2.2.2.2.2.2.2.2.2.1
theorem ms_p28 {K : Nat → Option ZK} {P : Nat → Nat → Option Nat} (h : msh K P) : P 49 28 = some 74 := h.2.2.2.2.2.2.2.2.2.2.2.2.2.2.2.2.2.2.2.2.2.2.2.2.2.2.2.2.2.2.2.2.2.2.2.2.2.2.2.2.2.2.2.2.2.2.2.2.2.1
theorem ms_k74 {K : Nat → Option ZK} {P : Nat → Nat → Option Nat} (h : msh K P) : K 74 = some (.inr (1, 64)) := h.2.2.2.2.2.2.2.2.2.2.2.2.2.2.2.2.2.2.2.2.2.2.2.2.2.2.2.2.2.2.2.2.2.2.2.2.2.2.2.2.2.2.2.2.2.2.2.2.2.2.1
theorem ms_p29 {K : Nat → Option ZK} {P : Nat → Nat → Option Nat} (h : msh K P) : P 49 29 = some 75 := h.2.2.2.2.2.2.2.2.2.2.2.2.2.2.2.2.2.2.2.2.2.2.2.2.2.2.2.2.2.2.2.2.2.2.2.2.2.2.2.2.2.2.2.2.2.2.2.2.2.2.2.1
theorem ms_k75 {K : Nat → Option ZK} {P : Nat → Nat → Option Nat} (h : msh K P) : K 75 = some (.inr (0, 10)) := h.2.2.2.2.2.2.2.2.2.2.2.2.2.2.2.2.2.2.2.2.2.2.2.2.2.2.2.2.2.2.2.2.2.2.2.2.2.2.2.2.2.2.2.2.2.2.2.2.2.2.2.2.1
theorem ms_p30 {K : Nat → Option ZK} {P : Nat → Nat → Option Nat} (h : msh K P) : P 49 30 = some 76 := h.2.2.2.2.2.2.2.2.2.2.2.2.2.2.2.2.2.2.2.2.2.2.2.2.2.2.2.2.2.2.2.2.2.2.2.2.2.2.2.2.2.2.2.2.2.2.2.2.2.2.2.2.2.1
theorem ms_k76 {K : Nat → Option ZK} {P : Nat → Nat → Option Nat} (h : msh K P) : K 76 = some (.inr (0, 10)) := h.2.2.2.2.2.2.2.2.2.2.2.2.2.2.2.2.2.2.2.2.2.2.2.2.2.2.2.2.2.2.2.2.2.2.2.2.2.2.2.2.2.2.2.2.2.2.2.2.2.2.2.2.2.2.1
theorem ms_p31 {K : Nat → Option ZK} {P : Nat → Nat → Option Nat} (h : msh K P) : P 49 31 = some 77 := h.2.2.2.2.2.2.2.2.2.2.2.2.2.2.2.2.2.2.2.2.2.2.2.2.2.2.2.2.2.2.2.2.2.2.2.2.2.2.2.2.2.2.2.2.2.2.2.2.2.2.2.2.2.2.2.1
theorem ms_k77 {K : Nat → Option ZK} {P : Nat → Nat → Option Nat} (h : msh K P) : K 77 = some (.inr (1, 4)) := h.2.2.2.2.2.2.2.2.2.2.2.2.2.2.2.2.2.2.2.2.2.2.2.2.2.2.2.2.2.2.2.2.2.2.2.2.2.2.2.2.2.2.2.2.2.2.2.2.2.2.2.2.2.2.2.2.1
theorem ms_p32 {K : Nat → Option ZK} {P : Nat → Nat → Option Nat} (h : msh K P) : P 49 32 = some 78 := h.2.2.2.2.2.2.2.2.2.2.2.2.2.2.2.2.2.2.2.2.2.2.2.2.2.2.2.2.2.2.2.2.2.2.2.2.2.2.2.2.2.2.2.2.2.2.2.2.2.2.2.2.2.2.2.2.2.1
theorem ms_k78 {K : Nat → Option ZK} {P : Nat → Nat → Option Nat} (h : msh K P) : K 78 = some (.inr (0, 4)) := h.2.2.2.2.2.2.2.2.2.2.2.2.2.2.2.2.2.2.2.2.2.2.2.2.2.2.2.2.2.2.2.2.2.2.2.2.2.2.2.2.2.2.2.2.2.2.2.2.2.2.2.2.2.2.2.2.2.2
