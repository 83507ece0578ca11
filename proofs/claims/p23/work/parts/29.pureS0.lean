/-! the system's numbers: what its methods rely on -/
def OKS (S : SLS) : Prop := OKC (S.1 0) ∧ (∀ i, i < 7 → (S.1 i).1 4 9 = 0 ∨ (S.1 i).1 4 9 = 1) ∧ bn 0 4 (S.2.2 5) ∧ bn 0 60 (S.2.1 2 1) ∧ (S.2.2 6 = 0 ∨ S.2.2 6 = 1)
theorem OKS.o {S : SLS} (h : OKS S) : OKC (S.1 0) := h.1
theorem OKS.b {S : SLS} (h : OKS S) (i : Nat) (hi : i < 7) : (S.1 i).1 4 9 = 0 ∨ (S.1 i).1 4 9 = 1 := h.2.1 i hi
theorem OKS.h {S : SLS} (h : OKS S) : bn 0 4 (S.2.2 5) := h.2.2.1
theorem OKS.t {S : SLS} (h : OKS S) : bn 0 60 (S.2.1 2 1) := h.2.2.2.1
theorem OKS.k {S : SLS} (h : OKS S) : S.2.2 6 = 0 ∨ S.2.2 6 = 1 := h.2.2.2.2
