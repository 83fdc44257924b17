/-! append, undo and load in the class's words -/
set_option maxHeartbeats 1000000 in
theorem c_append (l : Launch) {G : va_G} {cy : Nat → ClassId} {ws0 : va_W} {b o : Nat} {xa : Nat → Nat} {K : Nat → Prop} {bl erp : Int} {bm d : Int → Int} {T : List Int} {dep : Int} {hs : Nat → Int → Int} (w0 w1 w2 w3 w4 : Int) (hC : CW cy ws0 b o xa K bl erp bm d T dep hs) (hI : CI b o K bl bm d T) : MIk l yX10_append wsX10_append rm_X10_append G cy [.ref (xa 0), .int (zI w0), .int (zI w1), .int (zI w2), .int (zI w3), .int (zI w4)] ws0 (fun z u => ∃ (bl2 : Int) (bm2 : Int → Int), (bl + 20 ≤ 600 ∧ z = bl + 20 ∧ bl2 = bl + 20 ∧ bm2 = apB bm bl w0 w1 w2 w3 w4 ∨ 600 < bl + 20 ∧ z = -1 ∧ bl2 = bl ∧ bm2 = bm) ∧ CW cy u b o xa K bl2 erp bm2 d T dep hs ∧ CI b o K bl2 bm2 d T ∧ Eqx ws0 u (fun j => j < b ∨ o < j)) := by
  have hC0 := hC
  obtain ⟨asu, nx, hs9, hF, hP, Dt, Tt, c1, c2, c3, c4, c5, c6, c7, c8, cD, cK⟩ := hC
  obtain ⟨h_x0, h_in, ec9, ep9, nm9, cs9, rt9, n9, k0, s0, v0, l0, e0, aol, F9, P9, rlf, pgf, h_rd, h_rc, h_rcp, h_tk7, h_rl, h_pg⟩ := id c1
  obtain ⟨tot, dee, F0, P0, op, tr, h_sr, h_sc, h_scp, h_sb, h_sbp, h_op, h_tr⟩ := id c2
  obtain ⟨gn, nu, co9, ch, h_rp, h_ch⟩ := id c3
  obtain ⟨se, re, wr, rt, wt, rs, sz, riw, h_tb, h_se, h_wr, h_rt, h_wt, h_re, h_rs, hT⟩ := id c4
  obtain ⟨h_co, h_cop⟩ := id c5
  obtain ⟨⟨h_hi, h_hsu, hFc⟩, hcf, h_hco, hcc⟩ := id c6
  obtain ⟨kS, hkS, qs, ar9, afo, qra, qf, atk, qt9, ask, rA, rr, st9, h_su, h_sur, h_fo, h_tk, h_sk, ⟨p1, p2, p3, p4⟩, hrA, hRu0⟩ := id c7
  have hD := hI.1.1
  have hn9 := hD.n
  have hb9 := hI.2.2.2.1
  have hnx := c8.1
  have hkp := c8.2.1
  have hqs : qs < 0 ∨ 0 + 46 ≤ qs := by have := p1.1; unfold SRo at this; omega
  have he : ∀ x : Int, 1 ≤ x → x ≤ d 0 → 0 ≤ cl d x ∧ cl d x ≤ d 1 := fun x a1 a2 => hD.col a1 (by omega)
  refine (k_X10_append l w0 w1 w2 w3 w4 h_x0 h_in hI.2.2.1).wk (fun z u _ h => ?_)
  obtain ⟨hc, hE⟩ := h
  have hE2 : Eqx ws0 u (fun j => j = 0 ∨ j = 1) := hE
  have hs2 : SX2 cy ws0 u b o K (fun j => j = 0 ∨ j = 1) := SX2.lo (fun j hj => by omega) hI.2.2.2.2 hb9
  have hR : RDS cy u 2 (xa 2) (xa 3) (xa 4) (xa 5) (xa 7) (xa 8) := ⟨ec9, ep9, nm9, cs9, rt9, n9, k0, s0, v0, l0, e0, aol, F9, P9, rlf, pgf, hE2.at h_rd (by decide), hE2.at h_rc (by decide), hE2.at h_rcp (by decide), hE2.at h_tk7 (by decide), hE2.at h_rl (by decide), hE2.at h_pg (by decide)⟩
  have key : ∀ (bl2 : Int) (bm2 : Int → Int), CF cy u xa bl2 erp bm2 asu → CW cy u b o xa K bl2 erp bm2 d T dep hs := fun bl2 bm2 hf => ⟨asu, nx, hs9, hF, hP, Dt, Tt, hf, c2.keep hE2 (fun j _ hj => by omega), c3.keep hE2 (fun j _ hj => by omega), c4.keep hE2 (fun j _ hj => by omega), c5.keep hE2 (fun j _ hj => by omega), c6.keep hE2 (fun j _ hj => by omega), c7.keep hE2 hs2, c8.keep hE2 hs2, cD, fun k hk => Nat.lt_of_lt_of_le (cK k hk) hE2.1⟩
  have hfr : Eqx ws0 u (fun j => j < b ∨ o < j) := hE2.wk (fun j hj => by omega)
  have hbl := hI.2.2.1
  rcases hc with ⟨a1, a2, k1, k2⟩ | ⟨a1, a2, k1, k2⟩
  · exact ⟨bl + 20, apB bm bl w0 w1 w2 w3 w4, Or.inl ⟨a1, a2, rfl, rfl⟩, key _ _ ⟨k1, k2, hR⟩, ⟨hI.1, apB_ok hI.2.1, by omega, hI.2.2.2⟩, hfr⟩
  · exact ⟨bl, bm, Or.inr ⟨a1, a2, rfl, rfl⟩, key _ _ ⟨k1, k2, hR⟩, hI, hfr⟩
/-- the history after one row is taken back -/
theorem HLs.pop {cy : Nat → ClassId} {u : va_W} {b o : Nat} {K : Nat → Prop} {Dt : Nat → Int → Int} {Tt : Nat → List Int} {nx dep : Int} {hs9 : Int → Option Nat} {hF : Nat → Int64} {hP : Nat → Int → Int64} {hs : Nat → Int → Int} (h : HLs cy u b o K Dt Tt nx dep hs9 hF hP hs) (h0 : 0 < dep) : HLs cy u b o K Dt Tt ((nx + 7) % 8) (dep - 1) hs9 hF hP hs := by
  obtain ⟨⟨n0, n1⟩, ⟨d0, d1⟩, hh⟩ := h
  refine ⟨by omega, by omega, fun i hi => ?_⟩
  have e : ((nx + 7) % 8 + 8 - (dep - 1) + (i : Int)) % 8 = (nx + 8 - dep + (i : Int)) % 8 := by omega
  rw [e]
  exact hh i (by omega)
set_option maxHeartbeats 2000000 in
theorem c_undo (l : Launch) {G : va_G} {cy : Nat → ClassId} {ws0 : va_W} {b o : Nat} {xa : Nat → Nat} {K : Nat → Prop} {bl erp : Int} {bm d : Int → Int} {T : List Int} {dep : Int} {hs : Nat → Int → Int} (hC : CW cy ws0 b o xa K bl erp bm d T dep hs) (hI : CI b o K bl bm d T) : MIk l yX10_undo wsX10_undo rm_X10_undo G cy [.ref (xa 0)] ws0 (fun z u => ∃ (dep2 : Int) (d2 : Int → Int) (T2 : List Int), (dep = 0 ∧ z = -1 ∧ d2 = d ∧ dep2 = 0 ∨ 0 < dep ∧ z = dep - 1 ∧ d2 = hs (dep - 1).toNat ∧ dep2 = dep - 1) ∧ CW cy u b o xa K bl erp bm d2 T2 dep2 hs ∧ CI b o K bl bm d2 T2 ∧ Eqx ws0 u (fun j => j < b ∨ o < j)) := by
  have hC0 := hC
  obtain ⟨asu, nx, hs9, hF, hP, Dt, Tt, c1, c2, c3, c4, c5, c6, c7, c8, cD, cK⟩ := hC
  obtain ⟨h_x0, h_in, ec9, ep9, nm9, cs9, rt9, n9, k0, s0, v0, l0, e0, aol, F9, P9, rlf, pgf, h_rd, h_rc, h_rcp, h_tk7, h_rl, h_pg⟩ := id c1
  obtain ⟨tot, dee, F0, P0, op, tr, h_sr, h_sc, h_scp, h_sb, h_sbp, h_op, h_tr⟩ := id c2
  obtain ⟨gn, nu, co9, ch, h_rp, h_ch⟩ := id c3
  obtain ⟨se, re, wr, rt, wt, rs, sz, riw, h_tb, h_se, h_wr, h_rt, h_wt, h_re, h_rs, hT⟩ := id c4
  obtain ⟨h_co, h_cop⟩ := id c5
  obtain ⟨⟨h_hi, h_hsu, hFc⟩, hcf, h_hco, hcc⟩ := id c6
  obtain ⟨kS, hkS, qs, ar9, afo, qra, qf, atk, qt9, ask, rA, rr, st9, h_su, h_sur, h_fo, h_tk, h_sk, ⟨p1, p2, p3, p4⟩, hrA, hRu0⟩ := id c7
  have hD := hI.1.1
  have hn9 := hD.n
  have hb9 := hI.2.2.2.1
  have hnx := c8.1
  have hkp := c8.2.1
  have hqs : qs < 0 ∨ 0 + 46 ≤ qs := by have := p1.1; unfold SRo at this; omega
  have he : ∀ x : Int, 1 ≤ x → x ≤ d 0 → 0 ≤ cl d x ∧ cl d x ≤ d 1 := fun x a1 a2 => hD.col a1 (by omega)
  by_cases h0 : dep = 0
  · refine (k_X10_undo0 l h_x0 h_hi h0).wk (fun z u _ h => ?_)
    obtain ⟨a1, rfl⟩ := h
    subst h0
    exact ⟨0, d, T, Or.inl ⟨rfl, a1, rfl, rfl⟩, hC0, hI, Eqx.rf⟩
  · have h1 : 0 < dep := by omega
    obtain ⟨asi, Ti, e1, e2, e3, eD, eS, eE, eT⟩ := c8.2.2 (dep - 1).toNat (by omega)
    have ei : (nx + 8 - dep + ((dep - 1).toNat : Int)) % 8 = (nx + 7) % 8 := by omega
    rw [ei] at e1 e2 e3
    generalize hv : hs (dep - 1).toNat = v at e2 e3 eD eS eE ⊢
    by_cases ca : asi = asu
    · subst ca
      refine (k_X10_undoS l h_x0 h_co h_cop h_hi h_hsu h_hco ⟨rfl, rfl⟩ hnx hkp hcc hFc h1 e1).wk (fun z u _ h => ?_)
      obtain ⟨a1, k1, k2, k3, hE⟩ := h
      have hE2 : Eqx ws0 u (fun j => j = 27 ∨ j = 16 ∨ j = 17) := hE
      have hs2 : SX2 cy ws0 u b o K (fun j => j = 27 ∨ j = 16 ∨ j = 17) := SX2.lo (fun j hj => by omega) hI.2.2.2.2 hb9
      have hse : SE d v := se_tr (se_sm cD.1) eE
      obtain rfl : Ti = T := eT.trans cD.2.symm
      have hH : CH cy u xa ((nx + 7) % 8) (dep - 1) hs9 hF hP := ⟨⟨k1, hE2.at h_hsu (by decide), fun i hi => ⟨hE2.at (hFc i hi).1 (by omega), hE2.at (hFc i hi).2 (by omega)⟩⟩, hcf, hE2.at h_hco (by decide), hcc⟩
      have hO : CO2 cy u xa v := ⟨by rw [← e2]; exact k2, by rw [← e3]; exact k3⟩
      exact ⟨dep - 1, v, Ti, Or.inr ⟨h1, a1, rfl, rfl⟩, ⟨asi, (nx + 7) % 8, hs9, hF, hP, Dt, Tt, c1.keep hE2 (fun j hj => by omega), c2.keep hE2 (fun j _ hj => by omega), c3.keep hE2 (fun j _ hj => by omega), (c4.keep hE2 (fun j _ hj => by omega)).se hD hse, hO, hH, eS.keep hE2 hs2, (c8.keep hE2 hs2).pop h1, ⟨eE, eT⟩, fun k hk => Nat.lt_of_lt_of_le (cK k hk) hE2.1⟩, ⟨eD, hI.2⟩, hE2.wk (fun j hj => by omega)⟩
    · obtain ⟨kE, hkE, qs', ar9', afo', qra', qf', atk', qt9', ask', rA', rr', st9', g_su, g_sur, g_fo, g_tk, g_sk, ⟨p1', p2', p3', p4'⟩, hrA', hRu'⟩ := id eS
      have kl := hI.2.2.2.2 kE hkE
      unfold SRo at kl
      have pn : ∀ p : Nat, SRo b o p ∧ ¬ K p → (p < 0 ∨ 0 + 46 ≤ p) ∧ p ≠ kE := fun p hp => by
        refine ⟨?_, fun e => hp.2 (by rw [e]; exact hkE)⟩
        have := hp.1
        unfold SRo at this
        omega
      refine (k_X10_undo l h_x0 h_co h_cop h_hi h_hsu h_hco h_tb h_se h_wr h_rt h_wt h_re h_rs g_su g_sur g_fo g_tk g_sk ⟨rfl, rfl, rfl⟩ ⟨(pn _ p1').1, (pn _ p3').1, (pn _ p4').1, by omega, (pn _ p2').1⟩ ⟨(pn _ p3').2, (pn _ p4').2, (pn _ p1').2, (pn _ p2').2⟩ eD.1 eD.2 ca hrA' (fun r hr => ?_) hnx hkp hcc hFc h1 e1).wk (fun z u _ h => ?_)
      · obtain ⟨qq, hq, v1, v2, v3, v4, v5, f1, f2⟩ := hRu' r hr
        exact ⟨qq, v1, v2, v3, v4, v5, f1, pn _ hq, f2⟩
      · obtain ⟨a1, k0', ⟨se2, re2, wr2, rt2, wt2, rs2, st2, riw2, t1, t2, t3, t4, t5, t6, t7, t8, tT⟩, k1, k2, k3, hE⟩ := h
        have hE2 : Eqx ws0 u (fun j => j = 0 ∨ j = 27 ∨ j = 16 ∨ j = 17 ∨ (9 ≤ j ∧ j < 16) ∨ j = kE) := hE.wk (fun j hj => by omega)
        have hs2 : SX2 cy ws0 u b o K (fun j => j = 0 ∨ j = 27 ∨ j = 16 ∨ j = 17 ∨ (9 ≤ j ∧ j < 16) ∨ j = kE) := by
          refine ⟨fun j hj hk hx => ?_, fun k hk hx => ?_⟩
          · have hne : j ≠ kE := fun e => hk (by rw [e]; exact hkE)
            unfold SRo at hj
            omega
          · have hk2 := hI.2.2.2.2 k hk
            unfold SRo at hk2
            obtain rfl : k = kE := by omega
            exact ⟨_, st2, ⟨st9', g_sk⟩, t8⟩
        have hR : RDS cy u 2 (xa 2) (xa 3) (xa 4) (xa 5) (xa 7) (xa 8) := ⟨ec9, ep9, nm9, cs9, rt9, n9, k0, s0, v0, l0, e0, aol, F9, P9, rlf, pgf, hE2.at h_rd (by omega), hE2.at h_rc (by omega), hE2.at h_rcp (by omega), hE2.at h_tk7 (by omega), hE2.at h_rl (by omega), hE2.at h_pg (by omega)⟩
        have hH : CH cy u xa ((nx + 7) % 8) (dep - 1) hs9 hF hP := ⟨⟨k1, hE2.at h_hsu (by omega), fun i hi => ⟨hE2.at (hFc i hi).1 (by omega), hE2.at (hFc i hi).2 (by omega)⟩⟩, hcf, hE2.at h_hco (by omega), hcc⟩
        have hO : CO2 cy u xa v := ⟨by rw [← e2]; exact k2, by rw [← e3]; exact k3⟩
        exact ⟨dep - 1, v, Ti, Or.inr ⟨h1, a1, rfl, rfl⟩, ⟨asi, (nx + 7) % 8, hs9, hF, hP, Dt, Tt, ⟨k0', hE2.at h_in (by omega), hR⟩, c2.keep hE2 (fun j _ hj => by omega), c3.keep hE2 (fun j _ hj => by omega), ⟨se2, re2, wr2, rt2, wt2, rs2, _, riw2, t1, t2, t3, t4, t5, t6, t7, tT⟩, hO, hH, eS.keep hE2 hs2, (c8.keep hE2 hs2).pop h1, ⟨eE, eT⟩, fun k hk => Nat.lt_of_lt_of_le (cK k hk) hE2.1⟩, ⟨eD, hI.2⟩, hE2.wk (fun j hj => by omega)⟩
/-- a setup stays one when one more stack place is counted, behind all that was -/
theorem SUs.grow {cy : Nat → ClassId} {ws : va_W} {b o : Nat} {K : Nat → Prop} {asu k9 : Nat} {d : Int → Int} {T : List Int} (h : SUs cy ws b o K asu d T) (hk9 : ws.length ≤ k9) : SUs cy ws b o (fun k => K k ∨ k = k9) asu d T := by
  obtain ⟨k, hk, qs, ar9, afo, qra, qf, atk, qt9, ask, rA, rr, st9, h1, h2, h3, h4, h5, ⟨p1, p2, p3, p4⟩, h7, h8⟩ := h
  have gr : ∀ {p : Nat} {x : Nat × va_E}, ws[p]? = some x → SRo b o p ∧ ¬ K p → SRo b o p ∧ ¬ (K p ∨ p = k9) := fun {p x} hp hq => ⟨hq.1, fun hc => hc.elim hq.2 (fun e => by have := lt_of_at hp; omega)⟩
  exact ⟨k, Or.inl hk, qs, ar9, afo, qra, qf, atk, qt9, ask, rA, rr, st9, h1, h2, h3, h4, h5, ⟨gr h1 p1, gr h2 p2, gr h3 p3, gr h4 p4⟩, h7, fun r hr => by
    obtain ⟨qq, hq, v1, v2, v3, v4, v5, f1, f2⟩ := h8 r hr
    exact ⟨qq, gr f1 hq, v1, v2, v3, v4, v5, f1, f2⟩⟩
/-- a new cell's address is no setup's -/
theorem SUs.ne {cy : Nat → ClassId} {ws u : va_W} {b o : Nat} {K X : Nat → Prop} {asu q a9 : Nat} {d : Int → Int} {T : List Int} {e9 : va_E} (h : SUs cy ws b o K asu d T) (hE : Eqx ws u X) (hX : ∀ j, SRo b o j → ¬ X j) (hU : UQ u) (hq : ws.length ≤ q) (h9 : u[q]? = some (a9, e9)) : a9 ≠ asu := fun e => by
  obtain ⟨k, hk, qs, ar9, afo, qra, qf, atk, qt9, ask, rA, rr, st9, h1, h2, h3, h4, h5, ⟨p1, p2, p3, p4⟩, h7, h8⟩ := h
  have hl := lt_of_at h1
  have := hU q qs _ _ h9 (hE.at h1 (hX _ p1.1)) e
  omega
theorem HLs.grow {cy : Nat → ClassId} {ws : va_W} {b o : Nat} {K : Nat → Prop} {Dt : Nat → Int → Int} {Tt : Nat → List Int} {nx dep : Int} {hs9 : Int → Option Nat} {hF : Nat → Int64} {hP : Nat → Int → Int64} {hs : Nat → Int → Int} {k9 : Nat} (h : HLs cy ws b o K Dt Tt nx dep hs9 hF hP hs) (hk9 : ws.length ≤ k9) : HLs cy ws b o (fun k => K k ∨ k = k9) Dt Tt nx dep hs9 hF hP hs := ⟨h.1, h.2.1, fun i hi => by
  obtain ⟨asi, Ti, a, b1, c, e, f, g⟩ := h.2.2 i hi
  exact ⟨asi, Ti, a, b1, c, e, f.grow hk9, g⟩⟩
theorem HLs.upd {cy : Nat → ClassId} {ws : va_W} {b o : Nat} {K : Nat → Prop} {Dt : Nat → Int → Int} {Tt : Nat → List Int} {nx dep : Int} {hs9 : Int → Option Nat} {hF : Nat → Int64} {hP : Nat → Int → Int64} {hs : Nat → Int → Int} {a9 : Nat} {d9 : Int → Int} {T9 : List Int} (h : HLs cy ws b o K Dt Tt nx dep hs9 hF hP hs) (hne : ∀ (asi : Nat) (di : Int → Int) (Ti : List Int), SUs cy ws b o K asi di Ti → a9 ≠ asi) : HLs cy ws b o K (fun a => if a = a9 then d9 else Dt a) (fun a => if a = a9 then T9 else Tt a) nx dep hs9 hF hP hs := ⟨h.1, h.2.1, fun i hi => by
  obtain ⟨asi, Ti, a, b1, c, e, f, g⟩ := h.2.2 i hi
  have hn := hne asi _ _ f
  exact ⟨asi, Ti, a, b1, c, e, f, by simp only [if_neg (Ne.symm hn)]; exact g⟩⟩
theorem SUp.mono {cy : Nat → ClassId} {u : va_W} {asu : Nat} {d : Int → Int} {T : List Int} {P Q : Nat → Prop} {k : Nat} (h : SUp cy u asu d T P k) (hPQ : ∀ p, P p → Q p) : SUp cy u asu d T Q k := by
  obtain ⟨qs, ar9, afo, qra, qf, atk, qt9, ask, rA, rr, st9, h1, h2, h3, h4, h5, ⟨p1, p2, p3, p4⟩, h7, h8⟩ := h
  exact ⟨qs, ar9, afo, qra, qf, atk, qt9, ask, rA, rr, st9, h1, h2, h3, h4, h5, ⟨hPQ _ p1, hPQ _ p2, hPQ _ p3, hPQ _ p4⟩, h7, fun r hr => by
    obtain ⟨qq, hq, f⟩ := h8 r hr
    exact ⟨qq, hPQ _ hq, f⟩⟩
set_option maxHeartbeats 2000000 in
theorem c_load (l : Launch) {G : va_G} {cy : Nat → ClassId} {ws0 : va_W} {b o : Nat} {xa : Nat → Nat} {K : Nat → Prop} {bl erp : Int} {bm d : Int → Int} {T : List Int} {dep : Int} {hs : Nat → Int → Int} (tl : Int) (hC : CW cy ws0 b o xa K bl erp bm d T dep hs) (hI : CI b o K bl bm d T) (hv9r : -2147483648 ≤ tl ∧ tl ≤ 2147483647) (hol : o < ws0.length) (hl9 : l.stackTraces = false) : TIk l yX10_load wsX10_load rm_X10_load G cy [.ref (xa 0), .int (zI tl)] ws0 (fun E9 => E9 = "java/lang/IllegalArgumentException" ∧ ¬ (0 ≤ tl ∧ tl ≤ bl)) (fun z u => (0 ≤ tl ∧ tl ≤ bl) ∧ ∃ (K2 : Nat → Prop) (dep2 : Int) (d2 : Int → Int) (T2 : List Int) (hs2 : Nat → Int → Int), ((pLoad bm tl).1 ≠ 0 ∧ z = (pLoad bm tl).1 ∧ dep2 = dep ∧ d2 = d ∧ hs2 = hs ∨ (pLoad bm tl).1 = 0 ∧ z = (pLoad bm tl).2.2.2 2 ∧ dep2 = rn dep ∧ d2 = (pLoad bm tl).2.2.2 ∧ hs2 = rem dep hs d) ∧ CW cy u b o xa K2 0 (pLoad bm tl).2.1 bm d2 T2 dep2 hs2 ∧ CI b o K2 0 bm d2 T2 ∧ Eqx ws0 u (fun j => j < b ∨ o < j)) := by
  have hC0 := hC
  obtain ⟨asu, nx, hs9, hF, hP, Dt, Tt, c1, c2, c3, c4, c5, c6, c7, c8, cD, cK⟩ := hC
  obtain ⟨h_x0, h_in, ec9, ep9, nm9, cs9, rt9, n9, k0, s0, v0, l0, e0, aol, F9, P9, rlf, pgf, h_rd, h_rc, h_rcp, h_tk7, h_rl, h_pg⟩ := id c1
  obtain ⟨tot, dee, F0, P0, op, tr, h_sr, h_sc, h_scp, h_sb, h_sbp, h_op, h_tr⟩ := id c2
  obtain ⟨gn, nu, co9, ch, h_rp, h_ch⟩ := id c3
  obtain ⟨se, re, wr, rt, wt, rs, sz, riw, h_tb, h_se, h_wr, h_rt, h_wt, h_re, h_rs, hT⟩ := id c4
  obtain ⟨h_co, h_cop⟩ := id c5
  obtain ⟨⟨h_hi, h_hsu, hFc⟩, hcf, h_hco, hcc⟩ := id c6
  obtain ⟨kS, hkS, qs, ar9, afo, qra, qf, atk, qt9, ask, rA, rr, st9, h_su, h_sur, h_fo, h_tk, h_sk, ⟨p1, p2, p3, p4⟩, hrA, hRu0⟩ := id c7
  have hD := hI.1.1
  have hn9 := hD.n
  have hb9 := hI.2.2.2.1
  have hnx := c8.1
  have hkp := c8.2.1
  have hqs : qs < 0 ∨ 0 + 46 ≤ qs := by have := p1.1; unfold SRo at this; omega
  have he : ∀ x : Int, 1 ≤ x → x ≤ d 0 → 0 ≤ cl d x ∧ cl d x ≤ d 1 := fun x a1 a2 => hD.col a1 (by omega)
  refine (k_X10_load l tl h_x0 h_in h_rd h_rc h_rcp h_tk7 h_rl h_pg h_su h_co h_cop h_hi h_hsu h_hco h_tb h_se h_wr h_rt h_wt h_re h_rs rfl hI.2.1 ⟨rfl, rfl, rfl, rfl⟩ hqs hI.2.2.1 hv9r hnx hkp hcc hFc hl9).wk (fun z u hU h => ?_)
  obtain ⟨hr, hRD, hc⟩ := h
  refine ⟨hr, ?_⟩
  rcases hc with ⟨q1, hz, k0', hE⟩ | ⟨q0, asu2, qs9, d2, T2, rfl, hz, hDW, hTl, k0', hSU2, hB9, ⟨se2, re2, wr2, rt2, wt2, rs2, riw2, t1, t2, t3, t4, t5, t6, t7, tT⟩, k2, k3, hH, hE⟩
  · have hE2 : Eqx ws0 u (fun j => j = 0 ∨ (2 ≤ j ∧ j < 9)) := hE.wk (fun j hj => by omega)
    have hs2 : SX2 cy ws0 u b o K (fun j => j = 0 ∨ (2 ≤ j ∧ j < 9)) := SX2.lo (fun j hj => by omega) hI.2.2.2.2 hb9
    exact ⟨K, dep, d, T, hs, Or.inl ⟨q1, hz, rfl, rfl, rfl⟩, ⟨asu, nx, hs9, hF, hP, Dt, Tt, ⟨k0', hE2.at h_in (by omega), hRD⟩, c2.keep hE2 (fun j _ hj => by omega), c3.keep hE2 (fun j _ hj => by omega), c4.keep hE2 (fun j _ hj => by omega), c5.keep hE2 (fun j _ hj => by omega), c6.keep hE2 (fun j _ hj => by omega), c7.keep hE2 hs2, c8.keep hE2 hs2, cD, fun k hk => Nat.lt_of_lt_of_le (cK k hk) hE2.1⟩, ⟨hI.1, hI.2.1, ⟨Int.le_refl 0, by decide⟩, hI.2.2.2⟩, hE2.wk (fun j hj => by omega)⟩
  · generalize (pLoad bm tl).2.2.2 = d2 at hz hDW hSU2 t1 tT k2 k3 ⊢
    have hE2 : Eqx ws0 u (fun j => j < 46 ∧ (j < 18 ∨ 27 ≤ j) ∧ j ≠ 29 ∧ j ≠ 1) := hE.wk (fun j hj => by omega)
    have hK2 : ∀ k, (K k ∨ k = qs9) → SRo b o k := fun k hk => hk.elim (fun h => hI.2.2.2.2 k h) (fun e => Or.inr (by omega))
    have s2 : SX2 cy ws0 u b o (fun k => K k ∨ k = qs9) (fun j => j < 46 ∧ (j < 18 ∨ 27 ≤ j) ∧ j ≠ 29 ∧ j ≠ 1) := SX2.lo (fun j hj => hj.1) hK2 hb9
    have hXn : ∀ j, SRo b o j → ¬ (j < 46 ∧ (j < 18 ∨ 27 ≤ j) ∧ j ≠ 29 ∧ j ≠ 1) := fun j hj hx => by unfold SRo at hj; omega
    obtain ⟨qs2, ar2, afo2, qra2, qf2, atk2, qt2, ask2, rA2, rr2, st2, f1, f2, f3, f4, f5, fr⟩ := id hSU2
    have hne : ∀ (asi : Nat) (di : Int → Int) (Ti : List Int), SUs cy ws0 b o K asi di Ti → asu2 ≠ asi := fun asi di Ti hS => hS.ne hE2 hXn hU fr.1.1.1 f1
    have hna := hne _ _ _ c7
    have g7 : SUs cy u b o (fun k => K k ∨ k = qs9) asu d T := (c7.grow hB9).keep hE2 s2
    have g8 := (((c8.upd (d9 := d2) (T9 := T2) hne).grow hB9).keep hE2 s2).push hI.1 g7 (by simp only [if_neg (Ne.symm hna)]; exact cD)
    rw [← rn_if hkp] at g8 hH
    refine ⟨fun k => K k ∨ k = qs9, rn dep, d2, T2, rem dep hs d, Or.inr ⟨q0, hz, rfl, rfl, rfl⟩, ⟨asu2, (nx + 1) % 8, _, _, _, _, _, ⟨k0', hE2.at h_in (by omega), hRD⟩, c2.keep hE2 (fun j _ hj => by omega), c3.keep hE2 (fun j _ hj => by omega), ⟨se2, re2, wr2, rt2, wt2, rs2, _, riw2, t1, t2, t3, t4, t5, t6, t7, tT⟩, ⟨k2, k3⟩, ⟨hH, hcf, hE2.at h_hco (by omega), hcc⟩, ⟨qs9, Or.inr rfl, hSU2.mono (fun p hp => ?_)⟩, g8, ?_, fun k hk => ?_⟩, ⟨⟨hDW, hTl⟩, hI.2.1, ⟨Int.le_refl 0, by decide⟩, hb9, hK2⟩, hE2.wk (fun j hj => by omega)⟩
    · refine ⟨Or.inr (by omega), fun hc => hc.elim (fun h => ?_) hp.2⟩
      have := cK p h
      omega
    · simp only [if_pos]
      exact ⟨se_rf, trivial⟩
    · rcases hk with h | h
      · exact Nat.lt_of_lt_of_le (cK k h) hE2.1
      · rw [h]
        exact lt_of_at f5
