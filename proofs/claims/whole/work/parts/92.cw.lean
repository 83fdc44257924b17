/-! the class's world, and how it goes on -/
def SRo (b o p : Nat) : Prop := (46 ≤ p ∧ p < b) ∨ o < p
def SUs (cy : Nat → ClassId) (u : va_W) (b o : Nat) (K : Nat → Prop) (asu : Nat) (d : Int → Int) (T : List Int) : Prop := ∃ k : Nat, K k ∧ SUp cy u asu d T (fun p => SRo b o p ∧ ¬ K p) k
def HLs (cy : Nat → ClassId) (u : va_W) (b o : Nat) (K : Nat → Prop) (Dt : Nat → Int → Int) (Tt : Nat → List Int) (nx dep : Int) (hs9 : Int → Option Nat) (hF : Nat → Int64) (hP : Nat → Int → Int64) (hs : Nat → Int → Int) : Prop := (0 ≤ nx ∧ nx < 8) ∧ (0 ≤ dep ∧ dep ≤ 8) ∧ ∀ i : Nat, (i : Int) < dep → ∃ (asi : Nat) (Ti : List Int), hs9 ((nx + 8 - dep + i) % 8) = some asi ∧ hF ((nx + 8 - dep + i) % 8).toNat = fmk (hs i 0) (fx (hs i)) ∧ hP ((nx + 8 - dep + i) % 8).toNat = mk (hs i 0) (cl (hs i)) ∧ (DW (hs i) Ti ∧ Ti.length ≤ 600) ∧ SUs cy u b o K asi (hs i) Ti ∧ SE (Dt asi) (hs i) ∧ Ti = Tt asi
def CW (cy : Nat → ClassId) (u : va_W) (b o : Nat) (xa : Nat → Nat) (K : Nat → Prop) (bl erp : Int) (bm d : Int → Int) (T : List Int) (dep : Int) (hs : Nat → Int → Int) : Prop := ∃ (asu : Nat) (nx : Int) (hs9 : Int → Option Nat) (hF : Nat → Int64) (hP : Nat → Int → Int64) (Dt : Nat → Int → Int) (Tt : Nat → List Int), CF cy u xa bl erp bm asu ∧ CS cy u xa ∧ CR cy u xa ∧ CT cy u xa d T ∧ CO2 cy u xa d ∧ CH cy u xa nx dep hs9 hF hP ∧ SUs cy u b o K asu d T ∧ HLs cy u b o K Dt Tt nx dep hs9 hF hP hs ∧ (SE (Dt asu) d ∧ T = Tt asu) ∧ ∀ k, K k → k < u.length
/-- what holds of the numbers -/
def CI (b o : Nat) (K : Nat → Prop) (bl : Int) (bm d : Int → Int) (T : List Int) : Prop := (DW d T ∧ T.length ≤ 600) ∧ TXok bm ∧ (0 ≤ bl ∧ bl ≤ 600) ∧ (51 ≤ b ∧ b + 22 ≤ o) ∧ ∀ k, K k → SRo b o k
section CK
variable {cy : Nat → ClassId} {ws u : va_W} {xa : Nat → Nat} {X : Nat → Prop} {b o : Nat} {K : Nat → Prop}
theorem CF.keep {bl erp : Int} {bm : Int → Int} {asu : Nat} (h : CF cy ws xa bl erp bm asu) (hE : Eqx ws u X) (hX : ∀ j, j < 9 → ¬ X j) : CF cy u xa bl erp bm asu := by
  obtain ⟨h1, h2, ec, ep, nm, cs, rt, n, k1, s1, v1, l1, e1, aol, F, P, rl, pg, r1, r2, r3, r4, r5, r6⟩ := h
  exact ⟨hE.at h1 (hX _ (by decide)), hE.at h2 (hX _ (by decide)), ec, ep, nm, cs, rt, n, k1, s1, v1, l1, e1, aol, F, P, rl, pg, hE.at r1 (hX _ (by decide)), hE.at r2 (hX _ (by decide)), hE.at r3 (hX _ (by decide)), hE.at r4 (hX _ (by decide)), hE.at r5 (hX _ (by decide)), hE.at r6 (hX _ (by decide))⟩
theorem CS.keep (h : CS cy ws xa) (hE : Eqx ws u X) (hX : ∀ j, 18 ≤ j → j < 25 → ¬ X j) : CS cy u xa := by
  obtain ⟨tot, dee, F, P, op, tr, h1, h2, h3, h4, h5, h6, h7⟩ := h
  exact ⟨tot, dee, F, P, op, tr, hE.at h1 (hX _ (by decide) (by decide)), hE.at h2 (hX _ (by decide) (by decide)), hE.at h3 (hX _ (by decide) (by decide)), hE.at h4 (hX _ (by decide) (by decide)), hE.at h5 (hX _ (by decide) (by decide)), hE.at h6 (hX _ (by decide) (by decide)), hE.at h7 (hX _ (by decide) (by decide))⟩
theorem CR.keep (h : CR cy ws xa) (hE : Eqx ws u X) (hX : ∀ j, 25 ≤ j → j < 27 → ¬ X j) : CR cy u xa := by
  obtain ⟨gn, nu, co, ch, h1, h2⟩ := h
  exact ⟨gn, nu, co, ch, hE.at h1 (hX _ (by decide) (by decide)), hE.at h2 (hX _ (by decide) (by decide))⟩
theorem CT.keep {d : Int → Int} {T : List Int} (h : CT cy ws xa d T) (hE : Eqx ws u X) (hX : ∀ j, 9 ≤ j → j < 16 → ¬ X j) : CT cy u xa d T := by
  obtain ⟨se, re, wr, rt, wt, rs, sz, riw, h1, h2, h3, h4, h5, h6, h7, h8⟩ := h
  exact ⟨se, re, wr, rt, wt, rs, sz, riw, hE.at h1 (hX _ (by decide) (by decide)), hE.at h2 (hX _ (by decide) (by decide)), hE.at h3 (hX _ (by decide) (by decide)), hE.at h4 (hX _ (by decide) (by decide)), hE.at h5 (hX _ (by decide) (by decide)), hE.at h6 (hX _ (by decide) (by decide)), hE.at h7 (hX _ (by decide) (by decide)), h8⟩
theorem CO2.keep {d : Int → Int} (h : CO2 cy ws xa d) (hE : Eqx ws u X) (hX : ∀ j, 16 ≤ j → j < 18 → ¬ X j) : CO2 cy u xa d := ⟨hE.at h.1 (hX _ (by decide) (by decide)), hE.at h.2 (hX _ (by decide) (by decide))⟩
theorem CH.keep {nx kp : Int} {hs9 : Int → Option Nat} {hF : Nat → Int64} {hP : Nat → Int → Int64} (h : CH cy ws xa nx kp hs9 hF hP) (hE : Eqx ws u X) (hX : ∀ j, 27 ≤ j → j < 46 → ¬ X j) : CH cy u xa nx kp hs9 hF hP := by
  obtain ⟨⟨h1, h2, h3⟩, hcf, h4, h5⟩ := h
  exact ⟨⟨hE.at h1 (hX _ (by decide) (by decide)), hE.at h2 (hX _ (by decide) (by decide)), fun i hi => ⟨hE.at (h3 i hi).1 (hX _ (by omega) (by omega)), hE.at (h3 i hi).2 (hX _ (by omega) (by omega))⟩⟩, hcf, hE.at h4 (hX _ (by decide) (by decide)), h5⟩
/-- the setups outlast what changes no cell of theirs but, at the most, a stack -/
theorem SUp.stk {asu : Nat} {d : Int → Int} {T : List Int} {P : Nat → Prop} {k : Nat} (h : SUp cy ws asu d T P k) (hE : Eqx ws u X) (hP : ∀ j, P j → ¬ X j) (hk : X k → ∃ (c9 : Nat) (s9 : Int → Int), (∃ t9 : Int → Int, ws[k]? = some (c9, aI cy 11 t9)) ∧ u[k]? = some (c9, aI cy 11 s9)) : SUp cy u asu d T P k := by
  obtain ⟨qs, ar9, afo, qra, qf, atk, qt9, ask, rA, rr, st9, h1, h2, h3, h4, h5, ⟨p1, p2, p3, p4⟩, h6, h7⟩ := h
  have hk2 : ∃ s9 : Int → Int, u[k]? = some (ask, aI cy 11 s9) := by
    by_cases c : X k
    · obtain ⟨c9, s9, ⟨t9, q1⟩, q2⟩ := hk c
      have e9 : ask = c9 := by
        have := h5.symm.trans q1
        simp only [Option.some.injEq, Prod.mk.injEq] at this
        exact this.1
      exact ⟨s9, by rw [e9]; exact q2⟩
    · exact ⟨st9, hE.at h5 c⟩
  obtain ⟨s9, hs9⟩ := hk2
  exact ⟨qs, ar9, afo, qra, qf, atk, qt9, ask, rA, rr, s9, hE.at h1 (hP _ p1), hE.at h2 (hP _ p2), hE.at h3 (hP _ p3), hE.at h4 (hP _ p4), hs9, ⟨p1, p2, p3, p4⟩, h6, fun r hr => by
    obtain ⟨qq, a, b⟩ := h7 r hr
    exact ⟨qq, a, b.keep hE (hP _ a)⟩⟩
/-- what a change may do to the setups: X takes no place of theirs but a stack, which stays one -/
def SX2 (cy : Nat → ClassId) (ws u : va_W) (b o : Nat) (K X : Nat → Prop) : Prop := (∀ j, SRo b o j → ¬ K j → ¬ X j) ∧ ∀ k, K k → X k → ∃ (c9 : Nat) (s9 : Int → Int), (∃ t9 : Int → Int, ws[k]? = some (c9, aI cy 11 t9)) ∧ u[k]? = some (c9, aI cy 11 s9)
theorem SUs.keep {asu : Nat} {d : Int → Int} {T : List Int} (h : SUs cy ws b o K asu d T) (hE : Eqx ws u X) (hX : SX2 cy ws u b o K X) : SUs cy u b o K asu d T := by
  obtain ⟨k, hk, h1⟩ := h
  exact ⟨k, hk, h1.stk hE (fun j hj => hX.1 j hj.1 hj.2) (hX.2 k hk)⟩
theorem HLs.keep {Dt : Nat → Int → Int} {Tt : Nat → List Int} {nx dep : Int} {hs9 : Int → Option Nat} {hF : Nat → Int64} {hP : Nat → Int → Int64} {hs : Nat → Int → Int} (h : HLs cy ws b o K Dt Tt nx dep hs9 hF hP hs) (hE : Eqx ws u X) (hX : SX2 cy ws u b o K X) : HLs cy u b o K Dt Tt nx dep hs9 hF hP hs := ⟨h.1, h.2.1, fun i hi => by
  obtain ⟨asi, Ti, a, b1, c, e, f, g⟩ := h.2.2 i hi
  exact ⟨asi, Ti, a, b1, c, e, f.keep hE hX, g⟩⟩
theorem SX2.lo (h : ∀ j, X j → j < 46) (hK : ∀ k, K k → SRo b o k) (hb : 51 ≤ b ∧ b + 22 ≤ o) : SX2 cy ws u b o K X := ⟨fun j h1 _ h3 => by have := h j h3; unfold SRo at h1; omega, fun k h1 h3 => by have := h k h3; have h4 := hK k h1; unfold SRo at h4; omega⟩
theorem SX2.md (h : ∀ j, X j → b ≤ j ∧ j ≤ o) (hK : ∀ k, K k → SRo b o k) : SX2 cy ws u b o K X := ⟨fun j h1 _ h3 => by have := h j h3; unfold SRo at h1; omega, fun k h1 h3 => by have := h k h3; have h4 := hK k h1; unfold SRo at h4; omega⟩
/-- the model and the law's row change nothing of the class -/
theorem CW.keep {bl erp : Int} {bm d : Int → Int} {T : List Int} {dep : Int} {hs : Nat → Int → Int} (h : CW cy ws b o xa K bl erp bm d T dep hs) (hI : CI b o K bl bm d T) (hE : Eqx ws u X) (hX : ∀ j, X j → b ≤ j ∧ j ≤ o) : CW cy u b o xa K bl erp bm d T dep hs := by
  obtain ⟨asu, nx, hs9, hF, hP, Dt, Tt, c1, c2, c3, c4, c5, c6, c7, c8, c9, cK⟩ := h
  have hb := hI.2.2.2.1
  have hl : ∀ j, j < 46 → ¬ X j := fun j hj hx => by have := hX j hx; omega
  have hs2 : SX2 cy ws u b o K X := SX2.md hX hI.2.2.2.2
  exact ⟨asu, nx, hs9, hF, hP, Dt, Tt, c1.keep hE (fun j hj => hl j (by omega)), c2.keep hE (fun j _ hj => hl j (by omega)), c3.keep hE (fun j _ hj => hl j (by omega)), c4.keep hE (fun j _ hj => hl j (by omega)), c5.keep hE (fun j _ hj => hl j (by omega)), c6.keep hE (fun j _ hj => hl j (by omega)), c7.keep hE hs2, c8.keep hE hs2, c9, fun k hk => Nat.lt_of_lt_of_le (cK k hk) hE.1⟩
/-- the history after one more row -/
theorem HLs.push {Dt : Nat → Int → Int} {Tt : Nat → List Int} {nx dep : Int} {hs9 : Int → Option Nat} {hF : Nat → Int64} {hP : Nat → Int → Int64} {hs : Nat → Int → Int} {asu : Nat} {d : Int → Int} {T : List Int} (h : HLs cy u b o K Dt Tt nx dep hs9 hF hP hs) (hD : DW d T ∧ T.length ≤ 600) (hs2 : SUs cy u b o K asu d T) (hse : SE (Dt asu) d ∧ T = Tt asu) : HLs cy u b o K Dt Tt ((nx + 1) % 8) (if dep < 8 then dep + 1 else 8) (uZ hs9 nx (some asu)) (fun i => if i = nx.toNat then fmk (d 0) (fx d) else hF i) (fun i => if i = nx.toNat then mk (d 0) (cl d) else hP i) (rem dep hs d) := by
  obtain ⟨⟨n0, n1⟩, ⟨d0, d1⟩, hh⟩ := h
  refine ⟨by omega, by split <;> omega, fun i hi => ?_⟩
  by_cases c8 : dep < 8
  · rw [if_pos c8] at hi
    simp only [if_pos c8]
    by_cases c : (i : Int) = dep
    · have e1 : ((nx + 1) % 8 + 8 - (dep + 1) + (i : Int)) % 8 = nx := by omega
      refine ⟨asu, T, ?_, ?_, ?_, ?_, ?_⟩
      · rw [e1, uZ_s]
      all_goals simp only [e1, rem, if_neg (show ¬ dep = 8 by omega), if_pos c, if_pos]
      · exact hD
      · exact ⟨hs2, hse⟩
    · obtain ⟨asi, Ti, a, b1, c1, e, f⟩ := hh i (by omega)
      have e1 : ((nx + 1) % 8 + 8 - (dep + 1) + (i : Int)) % 8 = (nx + 8 - dep + i) % 8 := by omega
      have e2 : (nx + 8 - dep + i) % 8 ≠ nx := by omega
      have e3 : ((nx + 8 - dep + i) % 8).toNat ≠ nx.toNat := by omega
      refine ⟨asi, Ti, ?_, ?_, ?_, ?_, ?_⟩
      · rw [e1, uZ_n e2]; exact a
      all_goals simp only [e1, rem, if_neg (show ¬ dep = 8 by omega), if_neg c, if_neg e3]
      · exact b1
      · exact c1
      · exact e
      · exact f
  · have e8 : dep = 8 := by omega
    subst e8
    rw [if_neg c8] at hi
    simp only [if_neg c8]
    by_cases c : i = 7
    · subst c
      have e1 : ((nx + 1) % 8 + 8 - 8 + ((7 : Nat) : Int)) % 8 = nx := by omega
      refine ⟨asu, T, ?_, ?_, ?_, ?_, ?_⟩
      · rw [e1, uZ_s]
      all_goals simp only [e1, rem, if_pos]
      · exact hD
      · exact ⟨hs2, hse⟩
    · obtain ⟨asi, Ti, a, b1, c1, e, f⟩ := hh (i + 1) (by omega)
      have e1 : ((nx + 1) % 8 + 8 - 8 + (i : Int)) % 8 = (nx + 8 - 8 + ((i + 1 : Nat) : Int)) % 8 := by omega
      have e2 : (nx + 8 - 8 + ((i + 1 : Nat) : Int)) % 8 ≠ nx := by omega
      have e3 : ((nx + 8 - 8 + ((i + 1 : Nat) : Int)) % 8).toNat ≠ nx.toNat := by omega
      refine ⟨asi, Ti, ?_, ?_, ?_, ?_, ?_⟩
      · rw [e1, uZ_n e2]; exact a
      all_goals simp only [e1, rem, if_pos, if_neg c, if_neg e3]
      · exact b1
      · exact c1
      · exact e
      · exact f
end CK
theorem rn_if {n : Int} (h : 0 ≤ n ∧ n ≤ 8) : rn n = if n < 8 then n + 1 else 8 := by
  unfold rn
  split <;> split <;> omega
