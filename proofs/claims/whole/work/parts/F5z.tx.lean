theorem tx_l9 {sa : Nat → Nat} {TL : List (Nat × Nat × List Int32)} {b o u : Nat} {σ : rS} {J : Nat → Int64} (h : tx5 (c59 sa TL b)) : tx5 (lB9 sa TL b o u σ J) := h
