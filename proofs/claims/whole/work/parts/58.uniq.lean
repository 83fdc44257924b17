theorem CodeAt.ce {g : Int → Int} : ∀ (T : List Int) (i : Int), CodeAt g i T → CE g i T (g 4)
  | [], _, h => h
  | t :: T, i, h => by
    rcases h with ⟨a, b, c, d, e⟩ | ⟨a, b, c, d, e⟩ | ⟨a, b, c, e⟩
    · exact Or.inl ⟨a, b, c, d, CodeAt.ce T _ e⟩
    · exact Or.inr (Or.inl ⟨a, b, c, d, CodeAt.ce T _ e⟩)
    · exact Or.inr (Or.inr ⟨a, b, c, CodeAt.ce T _ e⟩)
/-- the row tells the tokens -/
theorem CE.uniq {g : Int → Int} : ∀ (T U : List Int) (i q : Int), CE g i T q → CE g i U q → T = U
  | [], [], _, _, _, _ => rfl
  | [], u :: U, i, q, h, k => by
    have h : i = q := h
    exfalso
    rcases k with ⟨_, _, _, _, e⟩ | ⟨_, _, _, _, e⟩ | ⟨_, _, _, e⟩
    · have := CE.le U _ _ e; omega
    · have := CE.le U _ _ e; omega
    · have := CE.le U _ _ e; omega
  | t :: T, [], i, q, h, k => by
    have k : i = q := k
    exfalso
    rcases h with ⟨_, _, _, _, e⟩ | ⟨_, _, _, _, e⟩ | ⟨_, _, _, e⟩
    · have := CE.le T _ _ e; omega
    · have := CE.le T _ _ e; omega
    · have := CE.le T _ _ e; omega
  | t :: T, u :: U, i, q, h, k => by
    rcases h with ⟨a, b, c, d, e⟩ | ⟨a, b, c, d, e⟩ | ⟨a, b, c, e⟩
    · rcases k with ⟨a2, b2, c2, d2, e2⟩ | ⟨a2, b2, c2, d2, e2⟩ | ⟨a2, b2, c2, e2⟩
      · rw [CE.uniq T U _ _ e e2, show t = u by omega]
      · exact absurd c2 (by omega)
      · exact absurd c2 (by omega)
    · rcases k with ⟨a2, b2, c2, d2, e2⟩ | ⟨a2, b2, c2, d2, e2⟩ | ⟨a2, b2, c2, e2⟩
      · exact absurd c2 (by omega)
      · rw [CE.uniq T U _ _ e e2, show t = u by omega]
      · exact absurd c2 (by omega)
    · rcases k with ⟨a2, b2, c2, d2, e2⟩ | ⟨a2, b2, c2, d2, e2⟩ | ⟨a2, b2, c2, e2⟩
      · exact absurd c2 (by omega)
      · exact absurd c2 (by omega)
      · rw [CE.uniq T U _ _ e e2, show t = u by omega]
theorem CodeAt.uniq {g : Int → Int} {T U : List Int} {i : Int} (h : CodeAt g i T) (k : CodeAt g i U) : T = U := CE.uniq T U i _ (CodeAt.ce T i h) (CodeAt.ce U i k)
