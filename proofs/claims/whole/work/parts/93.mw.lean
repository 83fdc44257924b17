/-! contracts whose ends are said otherwise -/
/-- no two places have one address -/
def UQ (u : va_W) : Prop := ∀ (i j : Nat) (p q : Nat × va_E), u[i]? = some p → u[j]? = some q → p.1 = q.1 → i = j
theorem MI.wk {l : Launch} {y : MethodName} {wds : List Cond} {rm : Room} {G : va_G} {cy : Nat → ClassId} {av : List Value} {ws : va_W} {post post2 : Int → va_W → Prop} (h : MI l y wds rm G cy av ws post) (k : ∀ z u, UQ u → post z u → post2 z u) : MI l y wds rm G cy av ws post2 := fun sz => (h sz).mono (fun _ _ h => h) (fun _ _ _ _ _ h => h) (fun a s o t _ hq => by
  obtain ⟨⟨⟨r, u, e, ⟨z, hz, hp⟩, hB⟩, hF⟩, hL⟩ := hq
  exact ⟨⟨⟨r, u, e, ⟨z, hz, k z u hB.2.2.1 hp⟩, hB⟩, hF⟩, hL⟩)
theorem ML.wk {l : Launch} {y : MethodName} {wds : List Cond} {rm : Room} {G : va_G} {cy : Nat → ClassId} {av : List Value} {ws : va_W} {post post2 : Int64 → va_W → Prop} (h : ML l y wds rm G cy av ws post) (k : ∀ z u, UQ u → post z u → post2 z u) : ML l y wds rm G cy av ws post2 := fun sz => (h sz).mono (fun _ _ h => h) (fun _ _ _ _ _ h => h) (fun a s o t _ hq => by
  obtain ⟨⟨⟨r, u, e, hp, hB⟩, hF⟩, hL⟩ := hq
  exact ⟨⟨⟨r, u, e, k r u hB.2.2.1 hp, hB⟩, hF⟩, hL⟩)
theorem MIs.wk {l : Launch} {y : MethodName} {wds : List Cond} {rm : Room} {G : va_G} {cy : Nat → ClassId} {av : List Value} {ws : va_W} {post post2 : Int → va_W → Prop} (h : MIs l y wds rm G cy av ws post) (k : ∀ z u, UQ u → post z u → post2 z u) : MIs l y wds rm G cy av ws post2 := fun sz => (h sz).mono (fun _ _ h => h) (fun _ _ _ _ _ h => h) (fun a s o t _ hq => by
  obtain ⟨⟨⟨r, u, e, ⟨z, hz, hp⟩, hB⟩, hF⟩, hL⟩ := hq
  exact ⟨⟨⟨r, u, e, ⟨z, hz, k z u hB.2.2.1 hp⟩, hB⟩, hF⟩, hL⟩)
theorem MIk.wk {l : Launch} {y : MethodName} {wds : List Cond} {rm : Room} {G : va_G} {cy : Nat → ClassId} {av : List Value} {ws : va_W} {post post2 : Int → va_W → Prop} (h : MIk l y wds rm G cy av ws post) (k : ∀ z u, UQ u → post z u → post2 z u) : MIk l y wds rm G cy av ws post2 := fun sz => (h sz).mono (fun _ _ h => h) (fun _ _ _ _ _ h => h) (fun a s o t _ hq => by
  obtain ⟨⟨⟨r, u, e, ⟨z, hz, hp⟩, hB⟩, hF⟩, hL⟩ := hq
  exact ⟨⟨⟨r, u, e, ⟨z, hz, k z u hB.2.2.1 hp⟩, hB⟩, hF⟩, hL⟩)
theorem MLk.wk {l : Launch} {y : MethodName} {wds : List Cond} {rm : Room} {G : va_G} {cy : Nat → ClassId} {av : List Value} {ws : va_W} {post post2 : Int64 → va_W → Prop} (h : MLk l y wds rm G cy av ws post) (k : ∀ z u, UQ u → post z u → post2 z u) : MLk l y wds rm G cy av ws post2 := fun sz => (h sz).mono (fun _ _ h => h) (fun _ _ _ _ _ h => h) (fun a s o t _ hq => by
  obtain ⟨⟨⟨r, u, e, hp, hB⟩, hF⟩, hL⟩ := hq
  exact ⟨⟨⟨r, u, e, k r u hB.2.2.1 hp, hB⟩, hF⟩, hL⟩)
theorem TIk.wk {l : Launch} {y : MethodName} {wds : List Cond} {rm : Room} {G : va_G} {cy : Nat → ClassId} {av : List Value} {ws : va_W} {xp : String → Prop} {post post2 : Int → va_W → Prop} (h : TIk l y wds rm G cy av ws xp post) (k : ∀ z u, UQ u → post z u → post2 z u) : TIk l y wds rm G cy av ws xp post2 := fun sz => (h sz).mono (fun _ _ h => h) (fun _ _ _ _ _ h => h) (fun a s o t _ hq => by
  rcases hq with ⟨⟨⟨r, u, e, ⟨z, hz, hp⟩, hB⟩, hF⟩, hL⟩ | hq
  · exact Or.inl ⟨⟨⟨r, u, e, ⟨z, hz, k z u hB.2.2.1 hp⟩, hB⟩, hF⟩, hL⟩
  · exact Or.inr hq)
/-- the reference's world: t what it threw last -/
def MW (cy : Nat → ClassId) (u : va_W) (b : Nat) (ad ar : Nat → Nat) (aM : Nat) (t bl erp dep : Int) (bm d : Int → Int) (hs : Nat → Int → Int) : Prop := ∃ (I : Nat → Int) (dr ke me le ru so fo wn op : Int → Int) (st : Int → Int64) (hi : Int → Option Nat), u[b]? = some (aM, mO I ad) ∧ u[b + 1]? = some (ad 1, aI cy 600 bm) ∧ u[b + 2]? = some (ad 8, aI cy 1111 d) ∧ u[b + 3]? = some (ad 9, aI cy 1111 dr) ∧ u[b + 4]? = some (ad 10, aI cy 1111 ke) ∧ u[b + 5]? = some (ad 11, aR cy 6 8 hi) ∧ (∀ i : Nat, i < 8 → u[b + 6 + i]? = some (ar i, aI cy 1111 (hs i))) ∧ u[b + 14]? = some (ad 15, aI cy 38400 me) ∧ u[b + 15]? = some (ad 16, aI cy 6400 le) ∧ u[b + 16]? = some (ad 17, aI cy 6400 ru) ∧ u[b + 17]? = some (ad 18, aI cy 4 so) ∧ u[b + 18]? = some (ad 20, aI cy 42 fo) ∧ u[b + 19]? = some (ad 21, aI cy 38400 wn) ∧ u[b + 20]? = some (ad 22, aL cy 1000 st) ∧ u[b + 21]? = some (ad 25, aI cy 40 op) ∧ LW d me le ru so fo wn (I 19) ∧ (∀ i : Nat, i < 8 → hi (i : Int) = some (ar i)) ∧ I 0 = t ∧ I 2 = bl ∧ I 7 = erp ∧ I 12 = dep
theorem MW.keep {cy : Nat → ClassId} {ws u : va_W} {b : Nat} {ad ar : Nat → Nat} {aM : Nat} {t bl erp dep : Int} {bm d : Int → Int} {hs : Nat → Int → Int} {X : Nat → Prop} (h : MW cy ws b ad ar aM t bl erp dep bm d hs) (hE : Eqx ws u X) (hX : ∀ j, b ≤ j → j < b + 22 → ¬ X j) : MW cy u b ad ar aM t bl erp dep bm d hs := by
  obtain ⟨I, dr, ke, me, le, ru, so, fo, wn, op, st, hi, h1, h2, h3, h4, h5, h6, h7, h8, h9, hA, hB, hC, hD, hF, hG, r⟩ := h
  exact ⟨I, dr, ke, me, le, ru, so, fo, wn, op, st, hi, hE.at h1 (hX _ (by omega) (by omega)), hE.at h2 (hX _ (by omega) (by omega)), hE.at h3 (hX _ (by omega) (by omega)), hE.at h4 (hX _ (by omega) (by omega)), hE.at h5 (hX _ (by omega) (by omega)), hE.at h6 (hX _ (by omega) (by omega)), fun i hi => hE.at (h7 i hi) (hX _ (by omega) (by omega)), hE.at h8 (hX _ (by omega) (by omega)), hE.at h9 (hX _ (by omega) (by omega)), hE.at hA (hX _ (by omega) (by omega)), hE.at hB (hX _ (by omega) (by omega)), hE.at hC (hX _ (by omega) (by omega)), hE.at hD (hX _ (by omega) (by omega)), hE.at hF (hX _ (by omega) (by omega)), hE.at hG (hX _ (by omega) (by omega)), r⟩
theorem MW.mro {cy : Nat → ClassId} {ws u : va_W} {b : Nat} {ad ar : Nat → Nat} {aM : Nat} {bm d : Int → Int} {hs : Nat → Int → Int} {I : Nat → Int} {dr me le ru so fo wn : Int → Int} {hi : Int → Option Nat} {t2 : Int} (h_bu : ws[b + 1]? = some (ad 1, aI cy 600 bm)) (h_dr : ws[b + 3]? = some (ad 9, aI cy 1111 dr)) (h_hi : ws[b + 5]? = some (ad 11, aR cy 6 8 hi)) (h_rw : ∀ i : Nat, i < 8 → ws[b + 6 + i]? = some (ar i, aI cy 1111 (hs i))) (h_me : ws[b + 14]? = some (ad 15, aI cy 38400 me)) (h_le : ws[b + 15]? = some (ad 16, aI cy 6400 le)) (h_ru : ws[b + 16]? = some (ad 17, aI cy 6400 ru)) (h_so : ws[b + 17]? = some (ad 18, aI cy 4 so)) (h_fo : ws[b + 18]? = some (ad 20, aI cy 42 fo)) (h_wn : ws[b + 19]? = some (ad 21, aI cy 38400 wn)) (hL : LW d me le ru so fo wn (I 19)) (hhi : ∀ i : Nat, i < 8 → hi (i : Int) = some (ar i)) (h : MRO cy b aM ad I d ws u t2) : MW cy u b ad ar aM t2 (I 2) (I 7) (I 12) bm d hs ∧ Eqx ws u (fun j => b ≤ j ∧ j ≤ b + 21) := by
  obtain ⟨I2, ke2, st2, op2, q1, q2, q3, q4, q5, q6, q7, q8⟩ := h
  have hn : ∀ {j : Nat} {x : Nat × va_E}, ws[j]? = some x → j ≠ b → j ≠ b + 2 → j ≠ b + 4 → j ≠ b + 20 → j ≠ b + 21 → u[j]? = some x := fun hj a1 a2 a3 a4 a5 => q8.at hj (by simp only [not_or]; exact ⟨a1, a2, a3, a4, a5⟩)
  refine ⟨⟨I2, dr, ke2, me, le, ru, so, fo, wn, op2, st2, hi, q1, hn h_bu (by omega) (by omega) (by omega) (by omega) (by omega), q2, hn h_dr (by omega) (by omega) (by omega) (by omega) (by omega), q3, hn h_hi (by omega) (by omega) (by omega) (by omega) (by omega), fun i hi => hn (h_rw i hi) (by omega) (by omega) (by omega) (by omega) (by omega), hn h_me (by omega) (by omega) (by omega) (by omega) (by omega), hn h_le (by omega) (by omega) (by omega) (by omega) (by omega), hn h_ru (by omega) (by omega) (by omega) (by omega) (by omega), hn h_so (by omega) (by omega) (by omega) (by omega) (by omega), hn h_fo (by omega) (by omega) (by omega) (by omega) (by omega), hn h_wn (by omega) (by omega) (by omega) (by omega) (by omega), q4, q5, ?_, hhi, q6, ?_, ?_, ?_⟩, q8.wk (fun j hj => by omega)⟩
  · rw [q7 19 (by decide) (by decide) (by decide) (by decide) (by decide)]
    exact hL
  · exact q7 2 (by decide) (by decide) (by decide) (by decide) (by decide)
  · exact q7 7 (by decide) (by decide) (by decide) (by decide) (by decide)
  · exact q7 12 (by decide) (by decide) (by decide) (by decide) (by decide)
theorem MW.mwo {cy : Nat → ClassId} {ws u : va_W} {b : Nat} {ad ar : Nat → Nat} {aM : Nat} {bm d d2 : Int → Int} {hs2 : Nat → Int → Int} {I : Nat → Int} {me le ru so fo wn : Int → Int} {hi : Int → Option Nat} {t2 n2 : Int} {T : List Int} (h_bu : ws[b + 1]? = some (ad 1, aI cy 600 bm)) (h_hi : ws[b + 5]? = some (ad 11, aR cy 6 8 hi)) (h_me : ws[b + 14]? = some (ad 15, aI cy 38400 me)) (h_le : ws[b + 15]? = some (ad 16, aI cy 6400 le)) (h_ru : ws[b + 16]? = some (ad 17, aI cy 6400 ru)) (h_so : ws[b + 17]? = some (ad 18, aI cy 4 so)) (h_fo : ws[b + 18]? = some (ad 20, aI cy 42 fo)) (h_wn : ws[b + 19]? = some (ad 21, aI cy 38400 wn)) (hL : LW d me le ru so fo wn (I 19)) (hhi : ∀ i : Nat, i < 8 → hi (i : Int) = some (ar i)) (hD : DW d T) (hSE : SE d d2) (h : MWO cy b aM ad ar I ws u t2 n2 d2 hs2) : MW cy u b ad ar aM t2 (I 2) (I 7) n2 bm d2 hs2 ∧ Eqx ws u (fun j => b ≤ j ∧ j ≤ b + 21) := by
  obtain ⟨I2, dr2, ke2, st2, op2, q1, q2, q3, q4, q5, q6, q7, q8, q9, qA, qB⟩ := h
  have hn : ∀ {j : Nat} {x : Nat × va_E}, ws[j]? = some x → j ≠ b → j ≠ b + 2 → j ≠ b + 3 → j ≠ b + 4 → ¬ (b + 6 ≤ j ∧ j < b + 14) → j ≠ b + 20 → j ≠ b + 21 → u[j]? = some x := fun hj a1 a2 a3 a4 a5 a6 a7 => qB.at hj (by simp only [not_or]; exact ⟨a1, a2, a3, a4, a5, a6, a7⟩)
  refine ⟨⟨I2, dr2, ke2, me, le, ru, so, fo, wn, op2, st2, hi, q1, hn h_bu (by omega) (by omega) (by omega) (by omega) (by omega) (by omega) (by omega), q2, q3, q4, hn h_hi (by omega) (by omega) (by omega) (by omega) (by omega) (by omega) (by omega), q5, hn h_me (by omega) (by omega) (by omega) (by omega) (by omega) (by omega) (by omega), hn h_le (by omega) (by omega) (by omega) (by omega) (by omega) (by omega) (by omega), hn h_ru (by omega) (by omega) (by omega) (by omega) (by omega) (by omega) (by omega), hn h_so (by omega) (by omega) (by omega) (by omega) (by omega) (by omega) (by omega), hn h_fo (by omega) (by omega) (by omega) (by omega) (by omega) (by omega) (by omega), hn h_wn (by omega) (by omega) (by omega) (by omega) (by omega) (by omega) (by omega), q6, q7, ?_, hhi, q8, ?_, ?_, q9⟩, qB.wk (fun j hj => by omega)⟩
  · rw [qA 19 (by decide) (by decide) (by decide) (by decide) (by decide) (by decide)]
    exact se_LW hSE hD hL
  · exact qA 2 (by decide) (by decide) (by decide) (by decide) (by decide) (by decide)
  · exact qA 7 (by decide) (by decide) (by decide) (by decide) (by decide) (by decide)
/-! which rows keep the setup -/
theorem se_col {d : Int → Int} {x v : Int} (hx : 1 ≤ x ∧ x ≤ 40) : SE d (uZ d (29 + x) v) := fun j hj => uZ_n (by omega)
theorem se_fix {d : Int → Int} {x v : Int} (hx : 1 ≤ x ∧ x ≤ 40) : SE d (uZ d (70 + x) v) := fun j hj => uZ_n (by omega)
theorem se_swD {d : Int → Int} {T : List Int} (hD : DW d T) (o1 o2 : Int) : SE d (swD d o1 o2) := fun j hj => by
  have := hD.n
  unfold swD
  rw [if_neg (by omega)]
theorem se_SR {d : Int → Int} {T : List Int} (hD : DW d T) {x y : Int} (hx : 0 ≤ x ∧ x ≤ d 0) : SE d (SR d x y).2.2 := fun j hj => by
  obtain ⟨_, h1, h2⟩ := SR_keep hD (most := y) hx
  rcases hj with h | h
  · exact h1 j h
  · exact h2 j (by omega)
theorem se_rpr {d : Int → Int} {T : List Int} (hD : DW d T) (m : Nat) : SE d (rpr d T m d).2 := fun j hj => by
  obtain ⟨_, h1, h2⟩ := rpr_keep m d hD
  rcases hj with h | h
  · exact h1 j h
  · exact h2 j (by omega)
set_option maxHeartbeats 1000000 in
theorem m_errorOffset (l : Launch) {G : va_G} {cy : Nat → ClassId} {ws0 : va_W} {b aM : Nat} {ad ar : Nat → Nat} {t0 bl erp dep : Int} {bm d : Int → Int} {hs : Nat → Int → Int} {T : List Int}  (hM : MW cy ws0 b ad ar aM t0 bl erp dep bm d hs) (hD : DW d T)  : MI l yX11_errorOffset wsX11_errorOffset rm_X11_errorOffset G cy [.ref aM] ws0 (fun z u => ∃ t : Int, (t = 0 ∧ z = erp) ∧ MW cy u b ad ar aM t bl erp dep bm d hs ∧ Eqx ws0 u (fun j => b ≤ j ∧ j ≤ b + 21)) := by
  obtain ⟨I, dr, ke, me, le, ru, so, fo, wn, op, st, hi, h_mo, h_bu, h_da, h_dr, h_ke, h_hi, h_rw, h_me, h_le, h_ru, h_so, h_fo, h_wn, h_st, h_op, hL, hhi, rfl, rfl, rfl, rfl⟩ := hM
  exact (k_X11_errorOffset l h_mo h_da h_ke h_st h_op hD hL).wk (fun z u _ h => by
    obtain ⟨t, hc, hr9⟩ := h
    exact ⟨t, hc, MW.mro h_bu h_dr h_hi h_rw h_me h_le h_ru h_so h_fo h_wn hL hhi hr9⟩)
set_option maxHeartbeats 1000000 in
theorem m_numberCount (l : Launch) {G : va_G} {cy : Nat → ClassId} {ws0 : va_W} {b aM : Nat} {ad ar : Nat → Nat} {t0 bl erp dep : Int} {bm d : Int → Int} {hs : Nat → Int → Int} {T : List Int}  (hM : MW cy ws0 b ad ar aM t0 bl erp dep bm d hs) (hD : DW d T)  : MI l yX11_numberCount wsX11_numberCount rm_X11_numberCount G cy [.ref aM] ws0 (fun z u => ∃ t : Int, (t = 0 ∧ z = d 0) ∧ MW cy u b ad ar aM t bl erp dep bm d hs ∧ Eqx ws0 u (fun j => b ≤ j ∧ j ≤ b + 21)) := by
  obtain ⟨I, dr, ke, me, le, ru, so, fo, wn, op, st, hi, h_mo, h_bu, h_da, h_dr, h_ke, h_hi, h_rw, h_me, h_le, h_ru, h_so, h_fo, h_wn, h_st, h_op, hL, hhi, rfl, rfl, rfl, rfl⟩ := hM
  exact (k_X11_numberCount l h_mo h_da h_ke h_st h_op hD hL).wk (fun z u _ h => by
    obtain ⟨t, hc, hr9⟩ := h
    exact ⟨t, hc, MW.mro h_bu h_dr h_hi h_rw h_me h_le h_ru h_so h_fo h_wn hL hhi hr9⟩)
set_option maxHeartbeats 1000000 in
theorem m_colourCount (l : Launch) {G : va_G} {cy : Nat → ClassId} {ws0 : va_W} {b aM : Nat} {ad ar : Nat → Nat} {t0 bl erp dep : Int} {bm d : Int → Int} {hs : Nat → Int → Int} {T : List Int}  (hM : MW cy ws0 b ad ar aM t0 bl erp dep bm d hs) (hD : DW d T)  : MI l yX11_colourCount wsX11_colourCount rm_X11_colourCount G cy [.ref aM] ws0 (fun z u => ∃ t : Int, (t = 0 ∧ z = d 1) ∧ MW cy u b ad ar aM t bl erp dep bm d hs ∧ Eqx ws0 u (fun j => b ≤ j ∧ j ≤ b + 21)) := by
  obtain ⟨I, dr, ke, me, le, ru, so, fo, wn, op, st, hi, h_mo, h_bu, h_da, h_dr, h_ke, h_hi, h_rw, h_me, h_le, h_ru, h_so, h_fo, h_wn, h_st, h_op, hL, hhi, rfl, rfl, rfl, rfl⟩ := hM
  exact (k_X11_colourCount l h_mo h_da h_ke h_st h_op hD hL).wk (fun z u _ h => by
    obtain ⟨t, hc, hr9⟩ := h
    exact ⟨t, hc, MW.mro h_bu h_dr h_hi h_rw h_me h_le h_ru h_so h_fo h_wn hL hhi hr9⟩)
set_option maxHeartbeats 1000000 in
theorem m_ruleCount (l : Launch) {G : va_G} {cy : Nat → ClassId} {ws0 : va_W} {b aM : Nat} {ad ar : Nat → Nat} {t0 bl erp dep : Int} {bm d : Int → Int} {hs : Nat → Int → Int} {T : List Int}  (hM : MW cy ws0 b ad ar aM t0 bl erp dep bm d hs) (hD : DW d T)  : MI l yX11_ruleCount wsX11_ruleCount rm_X11_ruleCount G cy [.ref aM] ws0 (fun z u => ∃ t : Int, (t = 0 ∧ z = d 2) ∧ MW cy u b ad ar aM t bl erp dep bm d hs ∧ Eqx ws0 u (fun j => b ≤ j ∧ j ≤ b + 21)) := by
  obtain ⟨I, dr, ke, me, le, ru, so, fo, wn, op, st, hi, h_mo, h_bu, h_da, h_dr, h_ke, h_hi, h_rw, h_me, h_le, h_ru, h_so, h_fo, h_wn, h_st, h_op, hL, hhi, rfl, rfl, rfl, rfl⟩ := hM
  exact (k_X11_ruleCount l h_mo h_da h_ke h_st h_op hD hL).wk (fun z u _ h => by
    obtain ⟨t, hc, hr9⟩ := h
    exact ⟨t, hc, MW.mro h_bu h_dr h_hi h_rw h_me h_le h_ru h_so h_fo h_wn hL hhi hr9⟩)
set_option maxHeartbeats 1000000 in
theorem m_solutions (l : Launch) {G : va_G} {cy : Nat → ClassId} {ws0 : va_W} {b aM : Nat} {ad ar : Nat → Nat} {t0 bl erp dep : Int} {bm d : Int → Int} {hs : Nat → Int → Int} {T : List Int} (r : Int) (hM : MW cy ws0 b ad ar aM t0 bl erp dep bm d hs) (hD : DW d T) (hr : (-2147483648 ≤ r ∧ r ≤ 2147483647)) : MI l yX11_solutions wsX11_solutions rm_X11_solutions G cy [.ref aM, .int (zI r)] ws0 (fun z u => ∃ t : Int, ((0 ≤ r ∧ r < d 2) ∧ t = 0 ∧ z = (kX d r (d 0).toNat).length ∨ (r < 0 ∨ d 2 ≤ r) ∧ t = 1) ∧ MW cy u b ad ar aM t bl erp dep bm d hs ∧ Eqx ws0 u (fun j => b ≤ j ∧ j ≤ b + 21)) := by
  obtain ⟨I, dr, ke, me, le, ru, so, fo, wn, op, st, hi, h_mo, h_bu, h_da, h_dr, h_ke, h_hi, h_rw, h_me, h_le, h_ru, h_so, h_fo, h_wn, h_st, h_op, hL, hhi, rfl, rfl, rfl, rfl⟩ := hM
  exact (k_X11_solutions l r h_mo h_da h_ke h_st h_op h_so hD hL hr).wk (fun z u _ h => by
    obtain ⟨t, hc, hr9⟩ := h
    exact ⟨t, hc, MW.mro h_bu h_dr h_hi h_rw h_me h_le h_ru h_so h_fo h_wn hL hhi hr9⟩)
set_option maxHeartbeats 1000000 in
theorem m_colour (l : Launch) {G : va_G} {cy : Nat → ClassId} {ws0 : va_W} {b aM : Nat} {ad ar : Nat → Nat} {t0 bl erp dep : Int} {bm d : Int → Int} {hs : Nat → Int → Int} {T : List Int} (x : Int) (hM : MW cy ws0 b ad ar aM t0 bl erp dep bm d hs) (hD : DW d T) (hr : (-2147483648 ≤ x ∧ x ≤ 2147483647)) : MI l yX11_colour wsX11_colour rm_X11_colour G cy [.ref aM, .int (zI x)] ws0 (fun z u => ∃ t : Int, ((1 ≤ x ∧ x ≤ d 0) ∧ t = 0 ∧ z = d (29 + x) - 1 ∨ (x < 1 ∨ d 0 < x) ∧ t = 1) ∧ MW cy u b ad ar aM t bl erp dep bm d hs ∧ Eqx ws0 u (fun j => b ≤ j ∧ j ≤ b + 21)) := by
  obtain ⟨I, dr, ke, me, le, ru, so, fo, wn, op, st, hi, h_mo, h_bu, h_da, h_dr, h_ke, h_hi, h_rw, h_me, h_le, h_ru, h_so, h_fo, h_wn, h_st, h_op, hL, hhi, rfl, rfl, rfl, rfl⟩ := hM
  exact (k_X11_colour l x h_mo h_da h_ke h_st h_op hD hL hr).wk (fun z u _ h => by
    obtain ⟨t, hc, hr9⟩ := h
    exact ⟨t, hc, MW.mro h_bu h_dr h_hi h_rw h_me h_le h_ru h_so h_fo h_wn hL hhi hr9⟩)
set_option maxHeartbeats 1000000 in
theorem m_isFixed (l : Launch) {G : va_G} {cy : Nat → ClassId} {ws0 : va_W} {b aM : Nat} {ad ar : Nat → Nat} {t0 bl erp dep : Int} {bm d : Int → Int} {hs : Nat → Int → Int} {T : List Int} (x : Int) (hM : MW cy ws0 b ad ar aM t0 bl erp dep bm d hs) (hD : DW d T) (hr : (-2147483648 ≤ x ∧ x ≤ 2147483647)) : MI l yX11_isFixed wsX11_isFixed rm_X11_isFixed G cy [.ref aM, .int (zI x)] ws0 (fun z u => ∃ t : Int, ((1 ≤ x ∧ x ≤ d 0) ∧ t = 0 ∧ z = d (70 + x) ∨ (x < 1 ∨ d 0 < x) ∧ t = 1) ∧ MW cy u b ad ar aM t bl erp dep bm d hs ∧ Eqx ws0 u (fun j => b ≤ j ∧ j ≤ b + 21)) := by
  obtain ⟨I, dr, ke, me, le, ru, so, fo, wn, op, st, hi, h_mo, h_bu, h_da, h_dr, h_ke, h_hi, h_rw, h_me, h_le, h_ru, h_so, h_fo, h_wn, h_st, h_op, hL, hhi, rfl, rfl, rfl, rfl⟩ := hM
  exact (k_X11_isFixed l x h_mo h_da h_ke h_st h_op hD hL hr).wk (fun z u _ h => by
    obtain ⟨t, hc, hr9⟩ := h
    exact ⟨t, hc, MW.mro h_bu h_dr h_hi h_rw h_me h_le h_ru h_so h_fo h_wn hL hhi hr9⟩)
set_option maxHeartbeats 1000000 in
theorem m_count (l : Launch) {G : va_G} {cy : Nat → ClassId} {ws0 : va_W} {b aM : Nat} {ad ar : Nat → Nat} {t0 bl erp dep : Int} {bm d : Int → Int} {hs : Nat → Int → Int} {T : List Int} (c9 : Int) (hM : MW cy ws0 b ad ar aM t0 bl erp dep bm d hs) (hD : DW d T) (hr : (-2147483648 ≤ c9 ∧ c9 ≤ 2147483647)) : MI l yX11_count wsX11_count rm_X11_count G cy [.ref aM, .int (zI c9)] ws0 (fun z u => ∃ t : Int, ((-1 ≤ c9 ∧ c9 < d 1) ∧ t = 0 ∧ z = sumL (fun y => if d (29 + y) = c9 + 1 then 1 else 0) (upto (d 0).toNat) ∨ (c9 < -1 ∨ d 1 ≤ c9) ∧ t = 1) ∧ MW cy u b ad ar aM t bl erp dep bm d hs ∧ Eqx ws0 u (fun j => b ≤ j ∧ j ≤ b + 21)) := by
  obtain ⟨I, dr, ke, me, le, ru, so, fo, wn, op, st, hi, h_mo, h_bu, h_da, h_dr, h_ke, h_hi, h_rw, h_me, h_le, h_ru, h_so, h_fo, h_wn, h_st, h_op, hL, hhi, rfl, rfl, rfl, rfl⟩ := hM
  exact (k_X11_count l c9 h_mo h_da h_ke h_st h_op hD hL hr).wk (fun z u _ h => by
    obtain ⟨t, hc, hr9⟩ := h
    exact ⟨t, hc, MW.mro h_bu h_dr h_hi h_rw h_me h_le h_ru h_so h_fo h_wn hL hhi hr9⟩)
set_option maxHeartbeats 1000000 in
theorem m_conflicts (l : Launch) {G : va_G} {cy : Nat → ClassId} {ws0 : va_W} {b aM : Nat} {ad ar : Nat → Nat} {t0 bl erp dep : Int} {bm d : Int → Int} {hs : Nat → Int → Int} {T : List Int}  (hM : MW cy ws0 b ad ar aM t0 bl erp dep bm d hs) (hD : DW d T)  : MI l yX11_conflicts wsX11_conflicts rm_X11_conflicts G cy [.ref aM] ws0 (fun z u => ∃ t : Int, (t = 0 ∧ z = cnfA d (cl d)) ∧ MW cy u b ad ar aM t bl erp dep bm d hs ∧ Eqx ws0 u (fun j => b ≤ j ∧ j ≤ b + 21)) := by
  obtain ⟨I, dr, ke, me, le, ru, so, fo, wn, op, st, hi, h_mo, h_bu, h_da, h_dr, h_ke, h_hi, h_rw, h_me, h_le, h_ru, h_so, h_fo, h_wn, h_st, h_op, hL, hhi, rfl, rfl, rfl, rfl⟩ := hM
  exact (k_X11_conflicts l h_mo h_da h_ke h_st h_op h_me h_le hD hL).wk (fun z u _ h => by
    obtain ⟨t, hc, hr9⟩ := h
    exact ⟨t, hc, MW.mro h_bu h_dr h_hi h_rw h_me h_le h_ru h_so h_fo h_wn hL hhi hr9⟩)
set_option maxHeartbeats 1000000 in
theorem m_totalWeight (l : Launch) {G : va_G} {cy : Nat → ClassId} {ws0 : va_W} {b aM : Nat} {ad ar : Nat → Nat} {t0 bl erp dep : Int} {bm d : Int → Int} {hs : Nat → Int → Int} {T : List Int}  (hM : MW cy ws0 b ad ar aM t0 bl erp dep bm d hs) (hD : DW d T)  : MI l yX11_totalWeight wsX11_totalWeight rm_X11_totalWeight G cy [.ref aM] ws0 (fun z u => ∃ t : Int, (t = 0 ∧ z = wgtA d T (cl d)) ∧ MW cy u b ad ar aM t bl erp dep bm d hs ∧ Eqx ws0 u (fun j => b ≤ j ∧ j ≤ b + 21)) := by
  obtain ⟨I, dr, ke, me, le, ru, so, fo, wn, op, st, hi, h_mo, h_bu, h_da, h_dr, h_ke, h_hi, h_rw, h_me, h_le, h_ru, h_so, h_fo, h_wn, h_st, h_op, hL, hhi, rfl, rfl, rfl, rfl⟩ := hM
  exact (k_X11_totalWeight l h_mo h_da h_ke h_st h_op h_me h_le h_ru hD hL).wk (fun z u _ h => by
    obtain ⟨t, hc, hr9⟩ := h
    exact ⟨t, hc, MW.mro h_bu h_dr h_hi h_rw h_me h_le h_ru h_so h_fo h_wn hL hhi hr9⟩)
set_option maxHeartbeats 1000000 in
theorem m_conflict (l : Launch) {G : va_G} {cy : Nat → ClassId} {ws0 : va_W} {b aM : Nat} {ad ar : Nat → Nat} {t0 bl erp dep : Int} {bm d : Int → Int} {hs : Nat → Int → Int} {T : List Int} (ix wh : Int) (hM : MW cy ws0 b ad ar aM t0 bl erp dep bm d hs) (hD : DW d T) (hr : (-2147483648 ≤ ix ∧ ix ≤ 2147483647) ∧ (-2147483648 ≤ wh ∧ wh ≤ 2147483647)) : MI l yX11_conflict wsX11_conflict rm_X11_conflict G cy [.ref aM, .int (zI ix), .int (zI wh)] ws0 (fun z u => ∃ t : Int, ((0 ≤ ix ∧ ix < cnfA d (cl d)) ∧ (0 ≤ wh ∧ wh ≤ 4) ∧ t = 0 ∧ (∃ (s : Nat) (q : Ky), (KL d)[s]? = some q ∧ cAll d (cl d) q ≠ -1 ∧ sumL (fun q => is1 d (cl d) q) ((KL d).take s) = ix ∧ z = (if wh = 0 then q.1 else if wh = 3 then cAll d (cl d) q else if wh = 4 then wK d T q (cAll d (cl d) q) else if wh = 1 then lil d q else big d q)) ∨ (ix < 0 ∨ cnfA d (cl d) ≤ ix) ∧ t = 1 ∨ (0 ≤ ix ∧ ix < cnfA d (cl d)) ∧ (wh < 0 ∨ 4 < wh) ∧ t = 2) ∧ MW cy u b ad ar aM t bl erp dep bm d hs ∧ Eqx ws0 u (fun j => b ≤ j ∧ j ≤ b + 21)) := by
  obtain ⟨I, dr, ke, me, le, ru, so, fo, wn, op, st, hi, h_mo, h_bu, h_da, h_dr, h_ke, h_hi, h_rw, h_me, h_le, h_ru, h_so, h_fo, h_wn, h_st, h_op, hL, hhi, rfl, rfl, rfl, rfl⟩ := hM
  exact (k_X11_conflict l ix wh h_mo h_da h_ke h_st h_op h_me h_le h_ru hD hL hr).wk (fun z u _ h => by
    obtain ⟨t, hc, hr9⟩ := h
    exact ⟨t, hc, MW.mro h_bu h_dr h_hi h_rw h_me h_le h_ru h_so h_fo h_wn hL hhi hr9⟩)
set_option maxHeartbeats 1000000 in
theorem m_conflictsOf (l : Launch) {G : va_G} {cy : Nat → ClassId} {ws0 : va_W} {b aM : Nat} {ad ar : Nat → Nat} {t0 bl erp dep : Int} {bm d : Int → Int} {hs : Nat → Int → Int} {T : List Int} (x : Int) (hM : MW cy ws0 b ad ar aM t0 bl erp dep bm d hs) (hD : DW d T) (hr : (-2147483648 ≤ x ∧ x ≤ 2147483647)) : MI l yX11_conflictsOf wsX11_conflictsOf rm_X11_conflictsOf G cy [.ref aM, .int (zI x)] ws0 (fun z u => ∃ t : Int, ((1 ≤ x ∧ x ≤ d 0) ∧ t = 0 ∧ z = cnfX d (cl d) x ∨ (x < 1 ∨ d 0 < x) ∧ t = 1) ∧ MW cy u b ad ar aM t bl erp dep bm d hs ∧ Eqx ws0 u (fun j => b ≤ j ∧ j ≤ b + 21)) := by
  obtain ⟨I, dr, ke, me, le, ru, so, fo, wn, op, st, hi, h_mo, h_bu, h_da, h_dr, h_ke, h_hi, h_rw, h_me, h_le, h_ru, h_so, h_fo, h_wn, h_st, h_op, hL, hhi, rfl, rfl, rfl, rfl⟩ := hM
  exact (k_X11_conflictsOf l x h_mo h_da h_ke h_st h_op h_me h_le h_fo h_wn hD hL hr).wk (fun z u _ h => by
    obtain ⟨t, hc, hr9⟩ := h
    exact ⟨t, hc, MW.mro h_bu h_dr h_hi h_rw h_me h_le h_ru h_so h_fo h_wn hL hhi hr9⟩)
set_option maxHeartbeats 1000000 in
theorem m_allowed (l : Launch) {G : va_G} {cy : Nat → ClassId} {ws0 : va_W} {b aM : Nat} {ad ar : Nat → Nat} {t0 bl erp dep : Int} {bm d : Int → Int} {hs : Nat → Int → Int} {T : List Int} (x : Int) (hM : MW cy ws0 b ad ar aM t0 bl erp dep bm d hs) (hD : DW d T) (hr : (-2147483648 ≤ x ∧ x ≤ 2147483647)) : MI l yX11_allowed wsX11_allowed rm_X11_allowed G cy [.ref aM, .int (zI x)] ws0 (fun z u => ∃ t : Int, ((1 ≤ x ∧ x ≤ d 0) ∧ t = 0 ∧ z = setN d x (d 1).toNat ∨ (x < 1 ∨ d 0 < x) ∧ t = 1) ∧ MW cy u b ad ar aM t bl erp dep bm d hs ∧ Eqx ws0 u (fun j => b ≤ j ∧ j ≤ b + 21)) := by
  obtain ⟨I, dr, ke, me, le, ru, so, fo, wn, op, st, hi, h_mo, h_bu, h_da, h_dr, h_ke, h_hi, h_rw, h_me, h_le, h_ru, h_so, h_fo, h_wn, h_st, h_op, hL, hhi, rfl, rfl, rfl, rfl⟩ := hM
  exact (k_X11_allowed l x h_mo h_da h_ke h_st h_op h_me h_le h_fo h_wn hD hL hr).wk (fun z u _ h => by
    obtain ⟨t, hc, hr9⟩ := h
    exact ⟨t, hc, MW.mro h_bu h_dr h_hi h_rw h_me h_le h_ru h_so h_fo h_wn hL hhi hr9⟩)
set_option maxHeartbeats 1000000 in
theorem m_canExtend (l : Launch) {G : va_G} {cy : Nat → ClassId} {ws0 : va_W} {b aM : Nat} {ad ar : Nat → Nat} {t0 bl erp dep : Int} {bm d : Int → Int} {hs : Nat → Int → Int} {T : List Int} (x y : Int) (hM : MW cy ws0 b ad ar aM t0 bl erp dep bm d hs) (hD : DW d T) (hx : (-2147483648 ≤ x ∧ x ≤ 2147483647) ∧ (-2147483648 ≤ y ∧ y ≤ 2147483647)) : MI l yX11_canExtend wsX11_canExtend rm_X11_canExtend G cy [.ref aM, .int (zI x), .int (zI y)] ws0 (fun z u => ∃ t : Int, ((1 ≤ x ∧ x ≤ d 0) ∧ (1 ≤ y ∧ y ≤ 3000) ∧ t = 0 ∧ z = (SR d x y).1 ∨ (x < 1 ∨ d 0 < x) ∧ t = 1 ∨ (1 ≤ x ∧ x ≤ d 0) ∧ (y < 1 ∨ 3000 < y) ∧ t = 2) ∧ MW cy u b ad ar aM t bl erp dep bm d hs ∧ Eqx ws0 u (fun j => b ≤ j ∧ j ≤ b + 21)) := by
  obtain ⟨I, dr, ke, me, le, ru, so, fo, wn, op, st, hi, h_mo, h_bu, h_da, h_dr, h_ke, h_hi, h_rw, h_me, h_le, h_ru, h_so, h_fo, h_wn, h_st, h_op, hL, hhi, rfl, rfl, rfl, rfl⟩ := hM
  exact (k_X11_canExtend l x y h_mo h_da h_ke h_st h_op h_me h_le h_fo h_wn hD hL hx).wk (fun z u _ h => by
    obtain ⟨t, hc, hr9⟩ := h
    exact ⟨t, hc, MW.mro h_bu h_dr h_hi h_rw h_me h_le h_ru h_so h_fo h_wn hL hhi hr9⟩)
set_option maxHeartbeats 1000000 in
theorem m_longest (l : Launch) {G : va_G} {cy : Nat → ClassId} {ws0 : va_W} {b aM : Nat} {ad ar : Nat → Nat} {t0 bl erp dep : Int} {bm d : Int → Int} {hs : Nat → Int → Int} {T : List Int} (y : Int) (hM : MW cy ws0 b ad ar aM t0 bl erp dep bm d hs) (hD : DW d T) (hx : (-2147483648 ≤ y ∧ y ≤ 2147483647)) : MI l yX11_longest wsX11_longest rm_X11_longest G cy [.ref aM, .int (zI y)] ws0 (fun z u => ∃ t : Int, ((1 ≤ y ∧ y ≤ 3000) ∧ t = 0 ∧ z = lng d y ∨ (y < 1 ∨ 3000 < y) ∧ t = 1) ∧ MW cy u b ad ar aM t bl erp dep bm d hs ∧ Eqx ws0 u (fun j => b ≤ j ∧ j ≤ b + 21)) := by
  obtain ⟨I, dr, ke, me, le, ru, so, fo, wn, op, st, hi, h_mo, h_bu, h_da, h_dr, h_ke, h_hi, h_rw, h_me, h_le, h_ru, h_so, h_fo, h_wn, h_st, h_op, hL, hhi, rfl, rfl, rfl, rfl⟩ := hM
  exact (k_X11_longest l y h_mo h_da h_ke h_st h_op h_me h_le h_fo h_wn hD hL hx).wk (fun z u _ h => by
    obtain ⟨t, hc, hr9⟩ := h
    exact ⟨t, hc, MW.mro h_bu h_dr h_hi h_rw h_me h_le h_ru h_so h_fo h_wn hL hhi hr9⟩)
set_option maxHeartbeats 1000000 in
theorem m_bestGain (l : Launch) {G : va_G} {cy : Nat → ClassId} {ws0 : va_W} {b aM : Nat} {ad ar : Nat → Nat} {t0 bl erp dep : Int} {bm d : Int → Int} {hs : Nat → Int → Int} {T : List Int}  (hM : MW cy ws0 b ad ar aM t0 bl erp dep bm d hs) (hD : DW d T)  : MI l yX11_bestGain wsX11_bestGain rm_X11_bestGain G cy [.ref aM] ws0 (fun z u => ∃ t : Int, (t = 0 ∧ z = (bst d T d).1) ∧ MW cy u b ad ar aM t bl erp dep bm d hs ∧ Eqx ws0 u (fun j => b ≤ j ∧ j ≤ b + 21)) := by
  obtain ⟨I, dr, ke, me, le, ru, so, fo, wn, op, st, hi, h_mo, h_bu, h_da, h_dr, h_ke, h_hi, h_rw, h_me, h_le, h_ru, h_so, h_fo, h_wn, h_st, h_op, hL, hhi, rfl, rfl, rfl, rfl⟩ := hM
  exact (k_X11_bestGain l h_mo h_da h_ke h_st h_op h_me h_le h_ru h_fo h_wn hD hL).wk (fun z u _ h => by
    obtain ⟨t, hc, hr9⟩ := h
    exact ⟨t, hc, MW.mro h_bu h_dr h_hi h_rw h_me h_le h_ru h_so h_fo h_wn hL hhi hr9⟩)
set_option maxHeartbeats 1000000 in
theorem m_checksum (l : Launch) {G : va_G} {cy : Nat → ClassId} {ws0 : va_W} {b aM : Nat} {ad ar : Nat → Nat} {t0 bl erp dep : Int} {bm d : Int → Int} {hs : Nat → Int → Int} {T : List Int}  (hM : MW cy ws0 b ad ar aM t0 bl erp dep bm d hs) (hD : DW d T)  : ML l yX11_checksum wsX11_checksum rm_X11_checksum G cy [.ref aM] ws0 (fun z u => ∃ t : Int, (t = 0 ∧ zL (csum d T) = z) ∧ MW cy u b ad ar aM t bl erp dep bm d hs ∧ Eqx ws0 u (fun j => b ≤ j ∧ j ≤ b + 21)) := by
  obtain ⟨I, dr, ke, me, le, ru, so, fo, wn, op, st, hi, h_mo, h_bu, h_da, h_dr, h_ke, h_hi, h_rw, h_me, h_le, h_ru, h_so, h_fo, h_wn, h_st, h_op, hL, hhi, rfl, rfl, rfl, rfl⟩ := hM
  exact (k_X11_checksum l h_mo h_da h_ke h_st h_op h_me h_le h_ru hD hL).wk (fun z u _ h => by
    obtain ⟨t, hc, hr9⟩ := h
    exact ⟨t, hc, MW.mro h_bu h_dr h_hi h_rw h_me h_le h_ru h_so h_fo h_wn hL hhi hr9⟩)
set_option maxHeartbeats 1000000 in
theorem m_setColour (l : Launch) {G : va_G} {cy : Nat → ClassId} {ws0 : va_W} {b aM : Nat} {ad ar : Nat → Nat} {t0 bl erp dep : Int} {bm d : Int → Int} {hs : Nat → Int → Int} {T : List Int} (x c9 : Int) (hM : MW cy ws0 b ad ar aM t0 bl erp dep bm d hs) (hD : DW d T) (hdep : 0 ≤ dep ∧ dep ≤ 8) (hx : (-2147483648 ≤ x ∧ x ≤ 2147483647) ∧ (-2147483648 ≤ c9 ∧ c9 ≤ 2147483647)) : MI l yX11_setColour wsX11_setColour rm_X11_setColour G cy [.ref aM, .int (zI x), .int (zI c9)] ws0 (fun z u => ∃ (t n2 : Int) (d2 : Int → Int) (hs2 : Nat → Int → Int), ((1 ≤ x ∧ x ≤ d 0) ∧ (-1 ≤ c9 ∧ c9 < d 1) ∧ d (70 + x) ≠ 1 ∧ t = 0 ∧ z = d (29 + x) - 1 ∧ n2 = rn (dep) ∧ d2 = uZ d (29 + x) (c9 + 1) ∧ hs2 = rem (dep) hs d ∨ ((x < 1 ∨ d 0 < x) ∨ (c9 < -1 ∨ d 1 ≤ c9)) ∧ t = 1 ∧ n2 = dep ∧ d2 = d ∧ hs2 = hs ∨ (1 ≤ x ∧ x ≤ d 0) ∧ (-1 ≤ c9 ∧ c9 < d 1) ∧ d (70 + x) = 1 ∧ t = 2 ∧ n2 = dep ∧ d2 = d ∧ hs2 = hs) ∧ MW cy u b ad ar aM t bl erp n2 bm d2 hs2 ∧ Eqx ws0 u (fun j => b ≤ j ∧ j ≤ b + 21)) := by
  obtain ⟨I, dr, ke, me, le, ru, so, fo, wn, op, st, hi, h_mo, h_bu, h_da, h_dr, h_ke, h_hi, h_rw, h_me, h_le, h_ru, h_so, h_fo, h_wn, h_st, h_op, hL, hhi, rfl, rfl, rfl, rfl⟩ := hM
  have hn9 := hD.n
  exact (k_X11_setColour l x c9 h_mo h_da h_dr h_ke h_st h_op h_hi h_rw hD hL hhi hdep hx).wk (fun z u _ h => by
    obtain ⟨t, n2, d2, hs2, hc, hr9⟩ := h
    have hse : SE d d2 := by
      rcases hc with ⟨a1, a2, a3, a4, a5, a6, rfl, a7⟩ | ⟨a1, a2, a3, rfl, a7⟩ | ⟨a1, a2, a3, a4, a5, rfl, a7⟩
      · exact se_col (by omega)
      · exact se_rf
      · exact se_rf
    exact ⟨t, n2, d2, hs2, hc, MW.mwo h_bu h_hi h_me h_le h_ru h_so h_fo h_wn hL hhi hD hse hr9⟩)
set_option maxHeartbeats 1000000 in
theorem m_setFixed (l : Launch) {G : va_G} {cy : Nat → ClassId} {ws0 : va_W} {b aM : Nat} {ad ar : Nat → Nat} {t0 bl erp dep : Int} {bm d : Int → Int} {hs : Nat → Int → Int} {T : List Int} (x f9 : Int) (hM : MW cy ws0 b ad ar aM t0 bl erp dep bm d hs) (hD : DW d T) (hdep : 0 ≤ dep ∧ dep ≤ 8) (hx : (-2147483648 ≤ x ∧ x ≤ 2147483647)) (hf9 : f9 = 0 ∨ f9 = 1) : MI l yX11_setFixed wsX11_setFixed rm_X11_setFixed G cy [.ref aM, .int (zI x), .int (zI f9)] ws0 (fun z u => ∃ (t n2 : Int) (d2 : Int → Int) (hs2 : Nat → Int → Int), ((1 ≤ x ∧ x ≤ d 0) ∧ (f9 = 0 ∨ d (29 + x) ≠ 0) ∧ t = 0 ∧ z = d (70 + x) ∧ n2 = rn (dep) ∧ d2 = uZ d (70 + x) f9 ∧ hs2 = rem (dep) hs d ∨ (x < 1 ∨ d 0 < x) ∧ t = 1 ∧ n2 = dep ∧ d2 = d ∧ hs2 = hs ∨ (1 ≤ x ∧ x ≤ d 0) ∧ (f9 = 1 ∧ d (29 + x) = 0) ∧ t = 2 ∧ n2 = dep ∧ d2 = d ∧ hs2 = hs) ∧ MW cy u b ad ar aM t bl erp n2 bm d2 hs2 ∧ Eqx ws0 u (fun j => b ≤ j ∧ j ≤ b + 21)) := by
  obtain ⟨I, dr, ke, me, le, ru, so, fo, wn, op, st, hi, h_mo, h_bu, h_da, h_dr, h_ke, h_hi, h_rw, h_me, h_le, h_ru, h_so, h_fo, h_wn, h_st, h_op, hL, hhi, rfl, rfl, rfl, rfl⟩ := hM
  have hn9 := hD.n
  exact (k_X11_setFixed l x f9 h_mo h_da h_dr h_ke h_st h_op h_hi h_rw hD hL hhi hdep hx hf9).wk (fun z u _ h => by
    obtain ⟨t, n2, d2, hs2, hc, hr9⟩ := h
    have hse : SE d d2 := by
      rcases hc with ⟨a1, a2, a3, a4, a5, rfl, a7⟩ | ⟨a1, a2, a3, rfl, a7⟩ | ⟨a1, a2, a3, a4, rfl, a7⟩
      · exact se_fix (by omega)
      · exact se_rf
      · exact se_rf
    exact ⟨t, n2, d2, hs2, hc, MW.mwo h_bu h_hi h_me h_le h_ru h_so h_fo h_wn hL hhi hD hse hr9⟩)
set_option maxHeartbeats 1000000 in
theorem m_swapColours (l : Launch) {G : va_G} {cy : Nat → ClassId} {ws0 : va_W} {b aM : Nat} {ad ar : Nat → Nat} {t0 bl erp dep : Int} {bm d : Int → Int} {hs : Nat → Int → Int} {T : List Int} (o1 o2 : Int) (hM : MW cy ws0 b ad ar aM t0 bl erp dep bm d hs) (hD : DW d T) (hdep : 0 ≤ dep ∧ dep ≤ 8) (hx : (-2147483648 ≤ o1 ∧ o1 ≤ 2147483647) ∧ (-2147483648 ≤ o2 ∧ o2 ≤ 2147483647)) : MI l yX11_swapColours wsX11_swapColours rm_X11_swapColours G cy [.ref aM, .int (zI o1), .int (zI o2)] ws0 (fun z u => ∃ (t n2 : Int) (d2 : Int → Int) (hs2 : Nat → Int → Int), ((0 ≤ o1 ∧ o1 < d 1) ∧ (0 ≤ o2 ∧ o2 < d 1) ∧ t = 0 ∧ z = sumL (fun y => if d (29 + y) = swD d o1 o2 (29 + y) then 0 else 1) (upto (d 0).toNat) ∧ n2 = rn (dep) ∧ d2 = swD d o1 o2 ∧ hs2 = rem (dep) hs d ∨ ((o1 < 0 ∨ d 1 ≤ o1) ∨ (o2 < 0 ∨ d 1 ≤ o2)) ∧ t = 1 ∧ n2 = dep ∧ d2 = d ∧ hs2 = hs) ∧ MW cy u b ad ar aM t bl erp n2 bm d2 hs2 ∧ Eqx ws0 u (fun j => b ≤ j ∧ j ≤ b + 21)) := by
  obtain ⟨I, dr, ke, me, le, ru, so, fo, wn, op, st, hi, h_mo, h_bu, h_da, h_dr, h_ke, h_hi, h_rw, h_me, h_le, h_ru, h_so, h_fo, h_wn, h_st, h_op, hL, hhi, rfl, rfl, rfl, rfl⟩ := hM
  have hn9 := hD.n
  exact (k_X11_swapColours l o1 o2 h_mo h_da h_dr h_ke h_st h_op h_hi h_rw hD hL hhi hdep hx).wk (fun z u _ h => by
    obtain ⟨t, n2, d2, hs2, hc, hr9⟩ := h
    have hse : SE d d2 := by
      rcases hc with ⟨a1, a2, a3, a4, a5, rfl, a7⟩ | ⟨a1, a2, a3, rfl, a7⟩
      · exact se_swD hD _ _
      · exact se_rf
    exact ⟨t, n2, d2, hs2, hc, MW.mwo h_bu h_hi h_me h_le h_ru h_so h_fo h_wn hL hhi hD hse hr9⟩)
set_option maxHeartbeats 1000000 in
theorem m_extend (l : Launch) {G : va_G} {cy : Nat → ClassId} {ws0 : va_W} {b aM : Nat} {ad ar : Nat → Nat} {t0 bl erp dep : Int} {bm d : Int → Int} {hs : Nat → Int → Int} {T : List Int} (x y : Int) (hM : MW cy ws0 b ad ar aM t0 bl erp dep bm d hs) (hD : DW d T) (hdep : 0 ≤ dep ∧ dep ≤ 8) (hx : (-2147483648 ≤ x ∧ x ≤ 2147483647) ∧ (-2147483648 ≤ y ∧ y ≤ 2147483647)) : MI l yX11_extend wsX11_extend rm_X11_extend G cy [.ref aM, .int (zI x), .int (zI y)] ws0 (fun z u => ∃ (t n2 : Int) (d2 : Int → Int) (hs2 : Nat → Int → Int), ((1 ≤ x ∧ x ≤ d 0) ∧ (1 ≤ y ∧ y ≤ 3000) ∧ t = 0 ∧ z = (SR d x y).1 ∧ (z < 0 ∧ n2 = dep ∧ d2 = d ∧ hs2 = hs ∨ 0 ≤ z ∧ n2 = rn (dep) ∧ d2 = (SR d x y).2.2 ∧ hs2 = rem (dep) hs d) ∨ (x < 1 ∨ d 0 < x) ∧ t = 1 ∧ n2 = dep ∧ d2 = d ∧ hs2 = hs ∨ (1 ≤ x ∧ x ≤ d 0) ∧ (y < 1 ∨ 3000 < y) ∧ t = 2 ∧ n2 = dep ∧ d2 = d ∧ hs2 = hs) ∧ MW cy u b ad ar aM t bl erp n2 bm d2 hs2 ∧ Eqx ws0 u (fun j => b ≤ j ∧ j ≤ b + 21)) := by
  obtain ⟨I, dr, ke, me, le, ru, so, fo, wn, op, st, hi, h_mo, h_bu, h_da, h_dr, h_ke, h_hi, h_rw, h_me, h_le, h_ru, h_so, h_fo, h_wn, h_st, h_op, hL, hhi, rfl, rfl, rfl, rfl⟩ := hM
  have hn9 := hD.n
  exact (k_X11_extend l x y h_mo h_da h_dr h_ke h_st h_op h_me h_le h_fo h_wn h_hi h_rw hD hL hhi hdep hx).wk (fun z u _ h => by
    obtain ⟨t, n2, d2, hs2, hc, hr9⟩ := h
    have hse : SE d d2 := by
      rcases hc with ⟨a1, a2, a3, a4, ⟨a5, a6, rfl, a7⟩ | ⟨a5, a6, rfl, a7⟩⟩ | ⟨a1, a2, a3, rfl, a7⟩ | ⟨a1, a2, a3, a4, rfl, a7⟩
      · exact se_rf
      · exact se_SR hD (by omega)
      · exact se_rf
      · exact se_rf
    exact ⟨t, n2, d2, hs2, hc, MW.mwo h_bu h_hi h_me h_le h_ru h_so h_fo h_wn hL hhi hD hse hr9⟩)
set_option maxHeartbeats 1000000 in
theorem m_repair (l : Launch) {G : va_G} {cy : Nat → ClassId} {ws0 : va_W} {b aM : Nat} {ad ar : Nat → Nat} {t0 bl erp dep : Int} {bm d : Int → Int} {hs : Nat → Int → Int} {T : List Int} (y : Int) (hM : MW cy ws0 b ad ar aM t0 bl erp dep bm d hs) (hD : DW d T) (hdep : 0 ≤ dep ∧ dep ≤ 8) (hx : (-2147483648 ≤ y ∧ y ≤ 2147483647)) : MI l yX11_repair wsX11_repair rm_X11_repair G cy [.ref aM, .int (zI y)] ws0 (fun z u => ∃ (t n2 : Int) (d2 : Int → Int) (hs2 : Nat → Int → Int), ((1 ≤ y ∧ y ≤ 10) ∧ t = 0 ∧ z = (rpr d T y.toNat d).1 ∧ n2 = rn (dep) ∧ d2 = (rpr d T y.toNat d).2 ∧ hs2 = rem (dep) hs d ∨ (y < 1 ∨ 10 < y) ∧ t = 1 ∧ n2 = dep ∧ d2 = d ∧ hs2 = hs) ∧ MW cy u b ad ar aM t bl erp n2 bm d2 hs2 ∧ Eqx ws0 u (fun j => b ≤ j ∧ j ≤ b + 21)) := by
  obtain ⟨I, dr, ke, me, le, ru, so, fo, wn, op, st, hi, h_mo, h_bu, h_da, h_dr, h_ke, h_hi, h_rw, h_me, h_le, h_ru, h_so, h_fo, h_wn, h_st, h_op, hL, hhi, rfl, rfl, rfl, rfl⟩ := hM
  have hn9 := hD.n
  exact (k_X11_repair l y h_mo h_da h_dr h_ke h_st h_op h_me h_le h_ru h_fo h_wn h_hi h_rw hD hL hhi hdep hx).wk (fun z u _ h => by
    obtain ⟨t, n2, d2, hs2, hc, hr9⟩ := h
    have hse : SE d d2 := by
      rcases hc with ⟨a1, a2, a3, a4, rfl, a7⟩ | ⟨a1, a2, a3, rfl, a7⟩
      · exact se_rpr hD _
      · exact se_rf
    exact ⟨t, n2, d2, hs2, hc, MW.mwo h_bu h_hi h_me h_le h_ru h_so h_fo h_wn hL hhi hD hse hr9⟩)
set_option maxHeartbeats 1000000 in
theorem m_thrown (l : Launch) {G : va_G} {cy : Nat → ClassId} {ws0 : va_W} {b aM : Nat} {ad ar : Nat → Nat} {t0 bl erp dep : Int} {bm d : Int → Int} {hs : Nat → Int → Int} (hM : MW cy ws0 b ad ar aM t0 bl erp dep bm d hs) : MI l yX11_thrown wsX11_thrown rm_X11_thrown G cy [.ref aM] ws0 (fun z u => z = t0 ∧ ws0 = u) := by
  obtain ⟨I, dr, ke, me, le, ru, so, fo, wn, op, st, hi, h_mo, h_bu, h_da, h_dr, h_ke, h_hi, h_rw, h_me, h_le, h_ru, h_so, h_fo, h_wn, h_st, h_op, hL, hhi, rfl, rfl, rfl, rfl⟩ := hM
  exact k_X11_thrown l h_mo
set_option maxHeartbeats 1000000 in
theorem m_append (l : Launch) {G : va_G} {cy : Nat → ClassId} {ws0 : va_W} {b aM : Nat} {ad ar : Nat → Nat} {t0 bl erp dep : Int} {bm d : Int → Int} {hs : Nat → Int → Int} (w0 w1 w2 w3 w4 : Int) (hM : MW cy ws0 b ad ar aM t0 bl erp dep bm d hs) (hw : (-2147483648 ≤ w0 ∧ w0 ≤ 2147483647) ∧ (-2147483648 ≤ w1 ∧ w1 ≤ 2147483647) ∧ (-2147483648 ≤ w2 ∧ w2 ≤ 2147483647) ∧ (-2147483648 ≤ w3 ∧ w3 ≤ 2147483647) ∧ (-2147483648 ≤ w4 ∧ w4 ≤ 2147483647)) (hbl : 0 ≤ bl ∧ bl ≤ 600) : MI l yX11_append wsX11_append rm_X11_append G cy [.ref aM, .int (zI w0), .int (zI w1), .int (zI w2), .int (zI w3), .int (zI w4)] ws0 (fun z u => ∃ (bl2 : Int) (bm2 : Int → Int), (bl + 20 ≤ 600 ∧ z = bl + 20 ∧ bl2 = bl + 20 ∧ bm2 = apB bm bl w0 w1 w2 w3 w4 ∨ 600 < bl + 20 ∧ z = -1 ∧ bl2 = bl ∧ bm2 = bm) ∧ MW cy u b ad ar aM 0 bl2 erp dep bm2 d hs ∧ Eqx ws0 u (fun j => b ≤ j ∧ j ≤ b + 21)) := by
  obtain ⟨I, dr, ke, me, le, ru, so, fo, wn, op, st, hi, h_mo, h_bu, h_da, h_dr, h_ke, h_hi, h_rw, h_me, h_le, h_ru, h_so, h_fo, h_wn, h_st, h_op, hL, hhi, rfl, rfl, rfl, rfl⟩ := hM
  refine (k_X11_append l w0 w1 w2 w3 w4 h_mo h_bu hw hbl).wk (fun z u _ h => ?_)
  obtain ⟨I2, bu2, hc, k1, k2, ⟨k3, k4⟩, hE⟩ := h
  have hn : ∀ {j : Nat} {x : Nat × va_E}, ws0[j]? = some x → j ≠ b → j ≠ b + 1 → u[j]? = some x := fun hj a1 a2 => hE.at hj (by simp only [not_or]; exact ⟨a1, a2⟩)
  refine ⟨I2 2, bu2, hc, ⟨I2, dr, ke, me, le, ru, so, fo, wn, op, st, hi, k1, k2, hn h_da (by omega) (by omega), hn h_dr (by omega) (by omega), hn h_ke (by omega) (by omega), hn h_hi (by omega) (by omega), fun i hi => hn (h_rw i hi) (by omega) (by omega), hn h_me (by omega) (by omega), hn h_le (by omega) (by omega), hn h_ru (by omega) (by omega), hn h_so (by omega) (by omega), hn h_fo (by omega) (by omega), hn h_wn (by omega) (by omega), hn h_st (by omega) (by omega), hn h_op (by omega) (by omega), ?_, hhi, k3, rfl, k4 7 (by decide) (by decide), k4 12 (by decide) (by decide)⟩, hE.wk (fun j hj => by omega)⟩
  rw [k4 19 (by decide) (by decide)]
  exact hL
set_option maxHeartbeats 1000000 in
theorem m_undo (l : Launch) {G : va_G} {cy : Nat → ClassId} {ws0 : va_W} {b aM : Nat} {ad ar : Nat → Nat} {t0 bl erp dep : Int} {bm d : Int → Int} {hs : Nat → Int → Int} {T2 : List Int} (hM : MW cy ws0 b ad ar aM t0 bl erp dep bm d hs) (hdep : 0 ≤ dep ∧ dep ≤ 8) (hT : 0 < dep → DW (hs (dep - 1).toNat) T2) : MI l yX11_undo wsX11_undo rm_X11_undo G cy [.ref aM] ws0 (fun z u => ∃ (dep2 : Int) (d2 : Int → Int), (dep = 0 ∧ z = -1 ∧ d2 = d ∧ dep2 = 0 ∨ 0 < dep ∧ z = dep - 1 ∧ d2 = hs (dep - 1).toNat ∧ dep2 = dep - 1) ∧ MW cy u b ad ar aM 0 bl erp dep2 bm d2 hs ∧ Eqx ws0 u (fun j => b ≤ j ∧ j ≤ b + 21)) := by
  obtain ⟨I, dr, ke, me, le, ru, so, fo, wn, op, st, hi, h_mo, h_bu, h_da, h_dr, h_ke, h_hi, h_rw, h_me, h_le, h_ru, h_so, h_fo, h_wn, h_st, h_op, hL, hhi, rfl, rfl, rfl, rfl⟩ := hM
  refine (k_X11_undo l (T := T2) h_mo h_da h_me h_le h_ru h_so h_fo h_wn h_hi h_rw hL hhi hdep hT).wk (fun z u _ h => ?_)
  obtain ⟨I2, d2, me2, le2, ru2, so2, fo2, wn2, hc, k1, k2, k3, k4, k5, k6, k7, k8, hL2, i0, iK, hE⟩ := h
  have hn : ∀ {j : Nat} {x : Nat × va_E}, ws0[j]? = some x → j ≠ b → j ≠ b + 2 → ¬ (b + 14 ≤ j ∧ j ≤ b + 19) → u[j]? = some x := fun hj a1 a2 a3 => hE.at hj (by simp only [not_or]; exact ⟨a1, a2, a3⟩)
  exact ⟨I2 12, d2, hc, ⟨I2, dr, ke, me2, le2, ru2, so2, fo2, wn2, op, st, hi, k1, hn h_bu (by omega) (by omega) (by omega), k2, hn h_dr (by omega) (by omega) (by omega), hn h_ke (by omega) (by omega) (by omega), hn h_hi (by omega) (by omega) (by omega), fun i hi => hn (h_rw i hi) (by omega) (by omega) (by omega), k3, k4, k5, k6, k7, k8, hn h_st (by omega) (by omega) (by omega), hn h_op (by omega) (by omega) (by omega), hL2, hhi, i0, iK 2 (by decide) (by decide) (by decide), iK 7 (by decide) (by decide) (by decide), rfl⟩, hE.wk (fun j hj => by omega)⟩
set_option maxHeartbeats 1000000 in
theorem m_load (l : Launch) {G : va_G} {cy : Nat → ClassId} {ws0 : va_W} {b aM : Nat} {ad ar : Nat → Nat} {t0 bl erp dep : Int} {bm d : Int → Int} {hs : Nat → Int → Int} (tl : Int) (hM : MW cy ws0 b ad ar aM t0 bl erp dep bm d hs) (htx : TXok bm) (hdep : 0 ≤ dep ∧ dep ≤ 8) (hb : 0 ≤ bl ∧ bl ≤ 600) (htl : -2147483648 ≤ tl ∧ tl ≤ 2147483647) : MIs l yX11_load wsX11_load rm_X11_load G cy [.ref aM, .int (zI tl)] ws0 (fun z u => ∃ (t2 bl2 erp2 dep2 : Int) (d2 : Int → Int) (hs2 : Nat → Int → Int), ((tl < 0 ∨ bl < tl) ∧ z = 0 ∧ t2 = 1 ∧ bl2 = bl ∧ erp2 = erp ∧ dep2 = dep ∧ d2 = d ∧ hs2 = hs ∨ (0 ≤ tl ∧ tl ≤ bl) ∧ t2 = 0 ∧ bl2 = 0 ∧ erp2 = (pLoad bm tl).2.1 ∧ ((pLoad bm tl).1 ≠ 0 ∧ z = (pLoad bm tl).1 ∧ dep2 = dep ∧ d2 = d ∧ hs2 = hs ∨ (pLoad bm tl).1 = 0 ∧ z = (pLoad bm tl).2.2.2 2 ∧ dep2 = rn dep ∧ d2 = (pLoad bm tl).2.2.2 ∧ hs2 = rem dep hs d)) ∧ MW cy u b ad ar aM t2 bl2 erp2 dep2 bm d2 hs2 ∧ Eqx ws0 u (fun j => b ≤ j ∧ j ≤ b + 21)) := by
  obtain ⟨I, dr, ke, me, le, ru, so, fo, wn, op, st, hi, h_mo, h_bu, h_da, h_dr, h_ke, h_hi, h_rw, h_me, h_le, h_ru, h_so, h_fo, h_wn, h_st, h_op, hL, hhi, rfl, rfl, rfl, rfl⟩ := hM
  refine (k_X11_load l tl h_mo h_bu h_da h_dr h_me h_le h_ru h_so h_fo h_wn h_hi h_rw htx hL hhi hdep hb htl).wk (fun z u _ h => ?_)
  obtain ⟨I2, d2, dr2, me2, le2, ru2, so2, fo2, wn2, hs2, hc, k1, k2, k3, kr, k4, k5, k6, k7, k8, k9, hL2, iK, hE⟩ := h
  have hn : ∀ {j : Nat} {x : Nat × va_E}, ws0[j]? = some x → j ≠ b → j ≠ b + 2 → j ≠ b + 3 → ¬ (b + 6 ≤ j ∧ j ≤ b + 19) → u[j]? = some x := fun hj a1 a2 a3 a4 => hE.at hj (by simp only [not_or]; exact ⟨a1, a2, a3, a4⟩)
  exact ⟨I2 0, I2 2, I2 7, I2 12, d2, hs2, hc, ⟨I2, dr2, ke, me2, le2, ru2, so2, fo2, wn2, op, st, hi, k1, hn h_bu (by omega) (by omega) (by omega) (by omega), k2, k3, hn h_ke (by omega) (by omega) (by omega) (by omega), hn h_hi (by omega) (by omega) (by omega) (by omega), kr, k4, k5, k6, k7, k8, k9, hn h_st (by omega) (by omega) (by omega) (by omega), hn h_op (by omega) (by omega) (by omega) (by omega), hL2, hhi, rfl, rfl, rfl, rfl⟩, hE.wk (fun j hj => by omega)⟩
