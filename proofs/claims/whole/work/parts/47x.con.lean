theorem pc_all (l : Launch) (G : va_G) (cy : Nat → ClassId) : ∀ n : Nat, PCon l G cy yX11_factor wsX11_factor (rmF n) 0 n ∧ PCon l G cy yX11_term wsX11_term (rmT n) 1 n ∧ PCon l G cy yX11_sum wsX11_sum (rmS n) 3 n := by
  have fin : ∀ n : Nat, PCon l G cy yX11_factor wsX11_factor (rmF n) 0 n → PCon l G cy yX11_factor wsX11_factor (rmF n) 0 n ∧ PCon l G cy yX11_term wsX11_term (rmT n) 1 n ∧ PCon l G cy yX11_sum wsX11_sum (rmS n) 3 n := by
    intro n hf
    have ht : PCon l G cy yX11_term wsX11_term (rmT n) 1 n := fun h1 h2 h3 h4 h5 h6 h7 h8 h9 hA => k_X11_term l n h1 h2 h3 hf h4 h5 h6 h7 h8 h9 hA
    exact ⟨hf, ht, fun h1 h2 h3 h4 h5 h6 h7 h8 h9 hA => k_X11_sum l n h1 h2 h3 ht h4 h5 h6 h7 h8 h9 hA⟩
  intro n
  induction n with
  | zero => exact fin 0 (fun h1 h2 h3 h4 h5 h6 h7 h8 h9 hA => k_X11_factor l 0 h1 h2 h3 (fun k hk => absurd hk (by omega)) h4 h5 h6 h7 h8 h9 hA)
  | succ k ih => exact fin (k + 1) (fun h1 h2 h3 h4 h5 h6 h7 h8 h9 hA => k_X11_factor l (k + 1) h1 h2 h3 (fun j hj => Nat.succ.inj hj ▸ ih.2.2) h4 h5 h6 h7 h8 h9 hA)
