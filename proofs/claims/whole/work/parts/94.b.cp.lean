theorem CT.se {cy : Nat → ClassId} {u : va_W} {xa : Nat → Nat} {d e : Int → Int} {T : List Int} (h : CT cy u xa d T) (hD : DW d T) (hs : SE d e) : CT cy u xa e T := by
  obtain ⟨se, re, wr, rt, wt, rs, sz, riw, h1, h2, h3, h4, h5, h6, h7, h8⟩ := h
  exact ⟨se, re, wr, rt, wt, rs, sz, riw, h1, h2, h3, h4, h5, h6, h7, se_TW hs hD h8⟩
/-! how the class's world goes on -/
theorem SUs.se {cy : Nat → ClassId} {u : va_W} {b o : Nat} {K : Nat → Prop} {asu : Nat} {d e : Int → Int} {T : List Int} (h : SUs cy u b o K asu d T) (hD : DW d T) (hs : SE d e) : SUs cy u b o K asu e T := by
  have hnr := hD.nr
  obtain ⟨k, hk, qs, ar9, afo, qra, qf, atk, qt9, ask, rA, rr, st9, h1, h2, h3, h4, h5, h6, h7, h8⟩ := h
  have e0 := hs 0 (by omega)
  have e1 := hs 1 (by omega)
  have e2 := hs 2 (by omega)
  refine ⟨k, hk, qs, ar9, afo, qra, qf, atk, qt9, ask, rA, rr, st9, by rw [e0, e1]; exact h1, by rw [e2]; exact h2, h3, h4, h5, h6, fun r hr => h7 r (by omega), fun r hr => ?_⟩
  obtain ⟨qq, hq, v1, v2, v3, v4, v5, g1, g2⟩ := h8 r (by omega)
  refine ⟨qq, hq, v1, v2, v3, v4, v5, ?_, ?_⟩
  · rw [hs (5 + 6 * (r : Int)) (by omega)]; exact g1
  · rw [hs (5 + 6 * (r : Int)) (by omega), hs (6 + 6 * (r : Int)) (by omega), hs (7 + 6 * (r : Int)) (by omega), hs (8 + 6 * (r : Int)) (by omega), hs (9 + 6 * (r : Int)) (by omega), hs (10 + 6 * (r : Int)) (by omega)]
    exact g2
theorem CO2.of {cy : Nat → ClassId} {u : va_W} {xa : Nat → Nat} {d e : Int → Int} (hs : SE d e) (k1 : u[16]? = some (xa 16, .inr (0, [.ref (xa 17), .long (fmk (d 0) (fx e))]))) (k2 : u[17]? = some (xa 17, aL cy 4 (mk (d 0) (cl e)))) : CO2 cy u xa e := by
  refine ⟨?_, ?_⟩
  · rw [hs 0 (by omega)]; exact k1
  · rw [hs 0 (by omega)]; exact k2
theorem CI.sub {b o : Nat} {K : Nat → Prop} {bl : Int} {bm d e : Int → Int} {T : List Int} (h : CI b o K bl bm d T) (hD : DW e T) : CI b o K bl bm e T := ⟨⟨hD, h.1.2⟩, h.2⟩
/-- one more row, other colours -/
theorem CW.wr {cy : Nat → ClassId} {ws u : va_W} {xa : Nat → Nat} {X : Nat → Prop} {b o : Nat} {K : Nat → Prop} {bl erp nx dep : Int} {bm d d2 : Int → Int} {T : List Int} {asu : Nat} {hs9 : Int → Option Nat} {hF : Nat → Int64} {hP : Nat → Int → Int64} {hs : Nat → Int → Int} {Dt : Nat → Int → Int} {Tt : Nat → List Int} (c1 : CF cy ws xa bl erp bm asu) (c4 : CT cy ws xa d T) (c6 : CH cy ws xa nx dep hs9 hF hP) (c7 : SUs cy ws b o K asu d T) (c8 : HLs cy ws b o K Dt Tt nx dep hs9 hF hP hs) (c9 : SE (Dt asu) d ∧ T = Tt asu) (cK : ∀ k, K k → k < ws.length) (hI : CI b o K bl bm d T) (hE : Eqx ws u X) (hX : ∀ j, X j → 16 ≤ j ∧ j < 46 ∧ j ≠ 29) (hS : CS cy u xa) (hR : CR cy u xa) (hO : CO2 cy u xa d2) (hH : HPs u cy 27 (xa 27) (xa 28) ((nx + 1) % 8) (if dep < 8 then dep + 1 else 8) (uZ hs9 nx (some asu)) (fun i => xa (30 + 2 * i)) (fun i => xa (31 + 2 * i)) (fun i => if i = nx.toNat then fmk (d 0) (fx d) else hF i) (fun i => if i = nx.toNat then mk (d 0) (cl d) else hP i) (xa 29)) (hse : SE d d2) : CW cy u b o xa K bl erp bm d2 T (rn dep) (rem dep hs d) ∧ Eqx ws u (fun j => j < b ∨ o < j) := by
  have hb := hI.2.2.2.1
  have s2 : SX2 cy ws u b o K X := SX2.lo (fun j hj => (hX j hj).2.1) hI.2.2.2.2 hb
  have g7 := c7.keep hE s2
  have g8 := (c8.keep hE s2).push hI.1 g7 c9
  rw [← rn_if c8.2.1] at g8 hH
  obtain ⟨_, hcf, h29, hcc⟩ := c6
  exact ⟨⟨asu, (nx + 1) % 8, _, _, _, Dt, Tt, c1.keep hE (fun j hj hx => by have := hX j hx; omega), hS, hR, c4.keep hE (fun j h0 h1 hx => by have := hX j hx; omega) |>.se hI.1.1 hse, hO, ⟨hH, hcf, hE.at h29 (fun hx => absurd rfl (hX 29 hx).2.2), hcc⟩, g7.se hI.1.1 hse, g8, ⟨se_tr c9.1 hse, c9.2⟩, fun k hk => Nat.lt_of_lt_of_le (cK k hk) hE.1⟩, hE.wk (fun j hj => by have := hX j hj; omega)⟩
set_option maxHeartbeats 1000000 in
theorem c_errorOffset (l : Launch) {G : va_G} {cy : Nat → ClassId} {ws0 : va_W} {b o : Nat} {xa : Nat → Nat} {K : Nat → Prop} {bl erp : Int} {bm d : Int → Int} {T : List Int} {dep : Int} {hs : Nat → Int → Int}  (hC : CW cy ws0 b o xa K bl erp bm d T dep hs) (hI : CI b o K bl bm d T)  : MIk l yX10_errorOffset wsX10_errorOffset rm_X10_errorOffset G cy [.ref (xa 0)] ws0  (fun z u => z = erp ∧ CW cy u b o xa K bl erp bm d T dep hs ∧ CI b o K bl bm d T ∧ Eqx ws0 u (fun j => j < b ∨ o < j)) := by
  have hC0 := hC
  obtain ⟨asu, nx, hs9, hF, hP, Dt, Tt, c1, c2, c3, c4, c5, c6, c7, c8, cD, cK⟩ := hC
  obtain ⟨h_x0, h_in, ec9, ep9, nm9, cs9, rt9, n9, k0, s0, v0, l0, e0, aol, F9, P9, rlf, pgf, h_rd, h_rc, h_rcp, h_tk7, h_rl, h_pg⟩ := id c1
  obtain ⟨tot, dee, F0, P0, op, tr, h_sr, h_sc, h_scp, h_sb, h_sbp, h_op, h_tr⟩ := id c2
  obtain ⟨gn, nu, co9, ch, h_rp, h_ch⟩ := id c3
  obtain ⟨se, re, wr, rt, wt, rs, sz, riw, h_tb, h_se, h_wr, h_rt, h_wt, h_re, h_rs, hT⟩ := id c4
  obtain ⟨h_co, h_cop⟩ := id c5
  obtain ⟨⟨h_hi, h_hsu, hFc⟩, hcf, h_hco, hcc⟩ := id c6
  obtain ⟨kS, hkS, qs, ar9, afo, qra, qf, atk, qt9, ask, rA, rr, st9, h_su, h_sur, h_fo, h_tk, h_sk, ⟨p1, p2, p3, p4⟩, hrA, hRu0⟩ := id c7
  have hD := hI.1.1
  have hn9 := hD.n
  have hb9 := hI.2.2.2.1
  have hnx := c8.1
  have hkp := c8.2.1
  have hqs : qs < 0 ∨ 0 + 46 ≤ qs := by have := p1.1; unfold SRo at this; omega
  have he : ∀ x : Int, 1 ≤ x → x ≤ d 0 → 0 ≤ cl d x ∧ cl d x ≤ d 1 := fun x a1 a2 => hD.col a1 (by omega)
  exact (k_X10_errorOffset l h_x0).wk (fun z u hU h => by
    obtain ⟨h1, rfl⟩ := h
    exact ⟨h1, hC0, hI, Eqx.rf⟩)
set_option maxHeartbeats 1000000 in
theorem c_numberCount (l : Launch) {G : va_G} {cy : Nat → ClassId} {ws0 : va_W} {b o : Nat} {xa : Nat → Nat} {K : Nat → Prop} {bl erp : Int} {bm d : Int → Int} {T : List Int} {dep : Int} {hs : Nat → Int → Int}  (hC : CW cy ws0 b o xa K bl erp bm d T dep hs) (hI : CI b o K bl bm d T)  : MIk l yX10_numberCount wsX10_numberCount rm_X10_numberCount G cy [.ref (xa 0)] ws0  (fun z u => z = d 0 ∧ CW cy u b o xa K bl erp bm d T dep hs ∧ CI b o K bl bm d T ∧ Eqx ws0 u (fun j => j < b ∨ o < j)) := by
  have hC0 := hC
  obtain ⟨asu, nx, hs9, hF, hP, Dt, Tt, c1, c2, c3, c4, c5, c6, c7, c8, cD, cK⟩ := hC
  obtain ⟨h_x0, h_in, ec9, ep9, nm9, cs9, rt9, n9, k0, s0, v0, l0, e0, aol, F9, P9, rlf, pgf, h_rd, h_rc, h_rcp, h_tk7, h_rl, h_pg⟩ := id c1
  obtain ⟨tot, dee, F0, P0, op, tr, h_sr, h_sc, h_scp, h_sb, h_sbp, h_op, h_tr⟩ := id c2
  obtain ⟨gn, nu, co9, ch, h_rp, h_ch⟩ := id c3
  obtain ⟨se, re, wr, rt, wt, rs, sz, riw, h_tb, h_se, h_wr, h_rt, h_wt, h_re, h_rs, hT⟩ := id c4
  obtain ⟨h_co, h_cop⟩ := id c5
  obtain ⟨⟨h_hi, h_hsu, hFc⟩, hcf, h_hco, hcc⟩ := id c6
  obtain ⟨kS, hkS, qs, ar9, afo, qra, qf, atk, qt9, ask, rA, rr, st9, h_su, h_sur, h_fo, h_tk, h_sk, ⟨p1, p2, p3, p4⟩, hrA, hRu0⟩ := id c7
  have hD := hI.1.1
  have hn9 := hD.n
  have hb9 := hI.2.2.2.1
  have hnx := c8.1
  have hkp := c8.2.1
  have hqs : qs < 0 ∨ 0 + 46 ≤ qs := by have := p1.1; unfold SRo at this; omega
  have he : ∀ x : Int, 1 ≤ x → x ≤ d 0 → 0 ≤ cl d x ∧ cl d x ≤ d 1 := fun x a1 a2 => hD.col a1 (by omega)
  exact (k_X10_numberCount l h_x0 h_su).wk (fun z u hU h => by
    obtain ⟨h1, rfl⟩ := h
    exact ⟨h1, hC0, hI, Eqx.rf⟩)
set_option maxHeartbeats 1000000 in
theorem c_colourCount (l : Launch) {G : va_G} {cy : Nat → ClassId} {ws0 : va_W} {b o : Nat} {xa : Nat → Nat} {K : Nat → Prop} {bl erp : Int} {bm d : Int → Int} {T : List Int} {dep : Int} {hs : Nat → Int → Int}  (hC : CW cy ws0 b o xa K bl erp bm d T dep hs) (hI : CI b o K bl bm d T)  : MIk l yX10_colourCount wsX10_colourCount rm_X10_colourCount G cy [.ref (xa 0)] ws0  (fun z u => z = d 1 ∧ CW cy u b o xa K bl erp bm d T dep hs ∧ CI b o K bl bm d T ∧ Eqx ws0 u (fun j => j < b ∨ o < j)) := by
  have hC0 := hC
  obtain ⟨asu, nx, hs9, hF, hP, Dt, Tt, c1, c2, c3, c4, c5, c6, c7, c8, cD, cK⟩ := hC
  obtain ⟨h_x0, h_in, ec9, ep9, nm9, cs9, rt9, n9, k0, s0, v0, l0, e0, aol, F9, P9, rlf, pgf, h_rd, h_rc, h_rcp, h_tk7, h_rl, h_pg⟩ := id c1
  obtain ⟨tot, dee, F0, P0, op, tr, h_sr, h_sc, h_scp, h_sb, h_sbp, h_op, h_tr⟩ := id c2
  obtain ⟨gn, nu, co9, ch, h_rp, h_ch⟩ := id c3
  obtain ⟨se, re, wr, rt, wt, rs, sz, riw, h_tb, h_se, h_wr, h_rt, h_wt, h_re, h_rs, hT⟩ := id c4
  obtain ⟨h_co, h_cop⟩ := id c5
  obtain ⟨⟨h_hi, h_hsu, hFc⟩, hcf, h_hco, hcc⟩ := id c6
  obtain ⟨kS, hkS, qs, ar9, afo, qra, qf, atk, qt9, ask, rA, rr, st9, h_su, h_sur, h_fo, h_tk, h_sk, ⟨p1, p2, p3, p4⟩, hrA, hRu0⟩ := id c7
  have hD := hI.1.1
  have hn9 := hD.n
  have hb9 := hI.2.2.2.1
  have hnx := c8.1
  have hkp := c8.2.1
  have hqs : qs < 0 ∨ 0 + 46 ≤ qs := by have := p1.1; unfold SRo at this; omega
  have he : ∀ x : Int, 1 ≤ x → x ≤ d 0 → 0 ≤ cl d x ∧ cl d x ≤ d 1 := fun x a1 a2 => hD.col a1 (by omega)
  exact (k_X10_colourCount l h_x0 h_su).wk (fun z u hU h => by
    obtain ⟨h1, rfl⟩ := h
    exact ⟨h1, hC0, hI, Eqx.rf⟩)
set_option maxHeartbeats 1000000 in
theorem c_ruleCount (l : Launch) {G : va_G} {cy : Nat → ClassId} {ws0 : va_W} {b o : Nat} {xa : Nat → Nat} {K : Nat → Prop} {bl erp : Int} {bm d : Int → Int} {T : List Int} {dep : Int} {hs : Nat → Int → Int}  (hC : CW cy ws0 b o xa K bl erp bm d T dep hs) (hI : CI b o K bl bm d T)  : MIk l yX10_ruleCount wsX10_ruleCount rm_X10_ruleCount G cy [.ref (xa 0)] ws0  (fun z u => z = d 2 ∧ CW cy u b o xa K bl erp bm d T dep hs ∧ CI b o K bl bm d T ∧ Eqx ws0 u (fun j => j < b ∨ o < j)) := by
  have hC0 := hC
  obtain ⟨asu, nx, hs9, hF, hP, Dt, Tt, c1, c2, c3, c4, c5, c6, c7, c8, cD, cK⟩ := hC
  obtain ⟨h_x0, h_in, ec9, ep9, nm9, cs9, rt9, n9, k0, s0, v0, l0, e0, aol, F9, P9, rlf, pgf, h_rd, h_rc, h_rcp, h_tk7, h_rl, h_pg⟩ := id c1
  obtain ⟨tot, dee, F0, P0, op, tr, h_sr, h_sc, h_scp, h_sb, h_sbp, h_op, h_tr⟩ := id c2
  obtain ⟨gn, nu, co9, ch, h_rp, h_ch⟩ := id c3
  obtain ⟨se, re, wr, rt, wt, rs, sz, riw, h_tb, h_se, h_wr, h_rt, h_wt, h_re, h_rs, hT⟩ := id c4
  obtain ⟨h_co, h_cop⟩ := id c5
  obtain ⟨⟨h_hi, h_hsu, hFc⟩, hcf, h_hco, hcc⟩ := id c6
  obtain ⟨kS, hkS, qs, ar9, afo, qra, qf, atk, qt9, ask, rA, rr, st9, h_su, h_sur, h_fo, h_tk, h_sk, ⟨p1, p2, p3, p4⟩, hrA, hRu0⟩ := id c7
  have hD := hI.1.1
  have hn9 := hD.n
  have hb9 := hI.2.2.2.1
  have hnx := c8.1
  have hkp := c8.2.1
  have hqs : qs < 0 ∨ 0 + 46 ≤ qs := by have := p1.1; unfold SRo at this; omega
  have he : ∀ x : Int, 1 ≤ x → x ≤ d 0 → 0 ≤ cl d x ∧ cl d x ≤ d 1 := fun x a1 a2 => hD.col a1 (by omega)
  exact (k_X10_ruleCount l h_x0 h_su h_sur hD).wk (fun z u hU h => by
    obtain ⟨h1, rfl⟩ := h
    exact ⟨h1, hC0, hI, Eqx.rf⟩)
set_option maxHeartbeats 1000000 in
theorem c_conflicts (l : Launch) {G : va_G} {cy : Nat → ClassId} {ws0 : va_W} {b o : Nat} {xa : Nat → Nat} {K : Nat → Prop} {bl erp : Int} {bm d : Int → Int} {T : List Int} {dep : Int} {hs : Nat → Int → Int}  (hC : CW cy ws0 b o xa K bl erp bm d T dep hs) (hI : CI b o K bl bm d T)  : MIk l yX10_conflicts wsX10_conflicts rm_X10_conflicts G cy [.ref (xa 0)] ws0  (fun z u => z = cnfA d (cl d) ∧ CW cy u b o xa K bl erp bm d T dep hs ∧ CI b o K bl bm d T ∧ Eqx ws0 u (fun j => j < b ∨ o < j)) := by
  have hC0 := hC
  obtain ⟨asu, nx, hs9, hF, hP, Dt, Tt, c1, c2, c3, c4, c5, c6, c7, c8, cD, cK⟩ := hC
  obtain ⟨h_x0, h_in, ec9, ep9, nm9, cs9, rt9, n9, k0, s0, v0, l0, e0, aol, F9, P9, rlf, pgf, h_rd, h_rc, h_rcp, h_tk7, h_rl, h_pg⟩ := id c1
  obtain ⟨tot, dee, F0, P0, op, tr, h_sr, h_sc, h_scp, h_sb, h_sbp, h_op, h_tr⟩ := id c2
  obtain ⟨gn, nu, co9, ch, h_rp, h_ch⟩ := id c3
  obtain ⟨se, re, wr, rt, wt, rs, sz, riw, h_tb, h_se, h_wr, h_rt, h_wt, h_re, h_rs, hT⟩ := id c4
  obtain ⟨h_co, h_cop⟩ := id c5
  obtain ⟨⟨h_hi, h_hsu, hFc⟩, hcf, h_hco, hcc⟩ := id c6
  obtain ⟨kS, hkS, qs, ar9, afo, qra, qf, atk, qt9, ask, rA, rr, st9, h_su, h_sur, h_fo, h_tk, h_sk, ⟨p1, p2, p3, p4⟩, hrA, hRu0⟩ := id c7
  have hD := hI.1.1
  have hn9 := hD.n
  have hb9 := hI.2.2.2.1
  have hnx := c8.1
  have hkp := c8.2.1
  have hqs : qs < 0 ∨ 0 + 46 ≤ qs := by have := p1.1; unfold SRo at this; omega
  have he : ∀ x : Int, 1 ≤ x → x ≤ d 0 → 0 ≤ cl d x ∧ cl d x ≤ d 1 := fun x a1 a2 => hD.col a1 (by omega)
  exact (k_X10_conflicts l h_x0 h_su h_co h_cop h_tb h_se hD hT he).wk (fun z u hU h => by
    obtain ⟨h1, rfl⟩ := h
    exact ⟨h1, hC0, hI, Eqx.rf⟩)
set_option maxHeartbeats 1000000 in
theorem c_totalWeight (l : Launch) {G : va_G} {cy : Nat → ClassId} {ws0 : va_W} {b o : Nat} {xa : Nat → Nat} {K : Nat → Prop} {bl erp : Int} {bm d : Int → Int} {T : List Int} {dep : Int} {hs : Nat → Int → Int}  (hC : CW cy ws0 b o xa K bl erp bm d T dep hs) (hI : CI b o K bl bm d T)  : MIk l yX10_totalWeight wsX10_totalWeight rm_X10_totalWeight G cy [.ref (xa 0)] ws0  (fun z u => z = wgtA d T (cl d) ∧ CW cy u b o xa K bl erp bm d T dep hs ∧ CI b o K bl bm d T ∧ Eqx ws0 u (fun j => j < b ∨ o < j)) := by
  have hC0 := hC
  obtain ⟨asu, nx, hs9, hF, hP, Dt, Tt, c1, c2, c3, c4, c5, c6, c7, c8, cD, cK⟩ := hC
  obtain ⟨h_x0, h_in, ec9, ep9, nm9, cs9, rt9, n9, k0, s0, v0, l0, e0, aol, F9, P9, rlf, pgf, h_rd, h_rc, h_rcp, h_tk7, h_rl, h_pg⟩ := id c1
  obtain ⟨tot, dee, F0, P0, op, tr, h_sr, h_sc, h_scp, h_sb, h_sbp, h_op, h_tr⟩ := id c2
  obtain ⟨gn, nu, co9, ch, h_rp, h_ch⟩ := id c3
  obtain ⟨se, re, wr, rt, wt, rs, sz, riw, h_tb, h_se, h_wr, h_rt, h_wt, h_re, h_rs, hT⟩ := id c4
  obtain ⟨h_co, h_cop⟩ := id c5
  obtain ⟨⟨h_hi, h_hsu, hFc⟩, hcf, h_hco, hcc⟩ := id c6
  obtain ⟨kS, hkS, qs, ar9, afo, qra, qf, atk, qt9, ask, rA, rr, st9, h_su, h_sur, h_fo, h_tk, h_sk, ⟨p1, p2, p3, p4⟩, hrA, hRu0⟩ := id c7
  have hD := hI.1.1
  have hn9 := hD.n
  have hb9 := hI.2.2.2.1
  have hnx := c8.1
  have hkp := c8.2.1
  have hqs : qs < 0 ∨ 0 + 46 ≤ qs := by have := p1.1; unfold SRo at this; omega
  have he : ∀ x : Int, 1 ≤ x → x ≤ d 0 → 0 ≤ cl d x ∧ cl d x ≤ d 1 := fun x a1 a2 => hD.col a1 (by omega)
  exact (k_X10_totalWeight l h_x0 h_su h_co h_cop h_tb h_se h_wr h_wt hD hT he).wk (fun z u hU h => by
    obtain ⟨h1, rfl⟩ := h
    exact ⟨h1, hC0, hI, Eqx.rf⟩)
set_option maxHeartbeats 1000000 in
theorem c_checksum (l : Launch) {G : va_G} {cy : Nat → ClassId} {ws0 : va_W} {b o : Nat} {xa : Nat → Nat} {K : Nat → Prop} {bl erp : Int} {bm d : Int → Int} {T : List Int} {dep : Int} {hs : Nat → Int → Int}  (hC : CW cy ws0 b o xa K bl erp bm d T dep hs) (hI : CI b o K bl bm d T)  : MLk l yX10_checksum wsX10_checksum rm_X10_checksum G cy [.ref (xa 0)] ws0  (fun z u => zL (csum d T) = z ∧ CW cy u b o xa K bl erp bm d T dep hs ∧ CI b o K bl bm d T ∧ Eqx ws0 u (fun j => j < b ∨ o < j)) := by
  have hC0 := hC
  obtain ⟨asu, nx, hs9, hF, hP, Dt, Tt, c1, c2, c3, c4, c5, c6, c7, c8, cD, cK⟩ := hC
  obtain ⟨h_x0, h_in, ec9, ep9, nm9, cs9, rt9, n9, k0, s0, v0, l0, e0, aol, F9, P9, rlf, pgf, h_rd, h_rc, h_rcp, h_tk7, h_rl, h_pg⟩ := id c1
  obtain ⟨tot, dee, F0, P0, op, tr, h_sr, h_sc, h_scp, h_sb, h_sbp, h_op, h_tr⟩ := id c2
  obtain ⟨gn, nu, co9, ch, h_rp, h_ch⟩ := id c3
  obtain ⟨se, re, wr, rt, wt, rs, sz, riw, h_tb, h_se, h_wr, h_rt, h_wt, h_re, h_rs, hT⟩ := id c4
  obtain ⟨h_co, h_cop⟩ := id c5
  obtain ⟨⟨h_hi, h_hsu, hFc⟩, hcf, h_hco, hcc⟩ := id c6
  obtain ⟨kS, hkS, qs, ar9, afo, qra, qf, atk, qt9, ask, rA, rr, st9, h_su, h_sur, h_fo, h_tk, h_sk, ⟨p1, p2, p3, p4⟩, hrA, hRu0⟩ := id c7
  have hD := hI.1.1
  have hn9 := hD.n
  have hb9 := hI.2.2.2.1
  have hnx := c8.1
  have hkp := c8.2.1
  have hqs : qs < 0 ∨ 0 + 46 ≤ qs := by have := p1.1; unfold SRo at this; omega
  have he : ∀ x : Int, 1 ≤ x → x ≤ d 0 → 0 ≤ cl d x ∧ cl d x ≤ d 1 := fun x a1 a2 => hD.col a1 (by omega)
  exact (k_X10_checksum l h_x0 h_su h_co h_cop h_tb h_se h_wr h_wt hD hT).wk (fun z u hU h => by
    obtain ⟨h1, rfl⟩ := h
    exact ⟨h1, hC0, hI, Eqx.rf⟩)
set_option maxHeartbeats 1000000 in
theorem c_solutions (l : Launch) {G : va_G} {cy : Nat → ClassId} {ws0 : va_W} {b o : Nat} {xa : Nat → Nat} {K : Nat → Prop} {bl erp : Int} {bm d : Int → Int} {T : List Int} {dep : Int} {hs : Nat → Int → Int} (r : Int) (hC : CW cy ws0 b o xa K bl erp bm d T dep hs) (hI : CI b o K bl bm d T) (hr9 : -2147483648 ≤ r ∧ r ≤ 2147483647) (hl9 : l.stackTraces = false) : TIk l yX10_solutions wsX10_solutions rm_X10_solutions G cy [.ref (xa 0), .int (zI r)] ws0 (fun E9 => E9 = "java/lang/IndexOutOfBoundsException" ∧ ¬ (0 ≤ r ∧ r < d 2)) (fun z u => (0 ≤ r ∧ r < d 2) ∧ z = (kX d r (d 0).toNat).length ∧ CW cy u b o xa K bl erp bm d T dep hs ∧ CI b o K bl bm d T ∧ Eqx ws0 u (fun j => j < b ∨ o < j)) := by
  have hC0 := hC
  obtain ⟨asu, nx, hs9, hF, hP, Dt, Tt, c1, c2, c3, c4, c5, c6, c7, c8, cD, cK⟩ := hC
  obtain ⟨h_x0, h_in, ec9, ep9, nm9, cs9, rt9, n9, k0, s0, v0, l0, e0, aol, F9, P9, rlf, pgf, h_rd, h_rc, h_rcp, h_tk7, h_rl, h_pg⟩ := id c1
  obtain ⟨tot, dee, F0, P0, op, tr, h_sr, h_sc, h_scp, h_sb, h_sbp, h_op, h_tr⟩ := id c2
  obtain ⟨gn, nu, co9, ch, h_rp, h_ch⟩ := id c3
  obtain ⟨se, re, wr, rt, wt, rs, sz, riw, h_tb, h_se, h_wr, h_rt, h_wt, h_re, h_rs, hT⟩ := id c4
  obtain ⟨h_co, h_cop⟩ := id c5
  obtain ⟨⟨h_hi, h_hsu, hFc⟩, hcf, h_hco, hcc⟩ := id c6
  obtain ⟨kS, hkS, qs, ar9, afo, qra, qf, atk, qt9, ask, rA, rr, st9, h_su, h_sur, h_fo, h_tk, h_sk, ⟨p1, p2, p3, p4⟩, hrA, hRu0⟩ := id c7
  have hD := hI.1.1
  have hn9 := hD.n
  have hb9 := hI.2.2.2.1
  have hnx := c8.1
  have hkp := c8.2.1
  have hqs : qs < 0 ∨ 0 + 46 ≤ qs := by have := p1.1; unfold SRo at this; omega
  have he : ∀ x : Int, 1 ≤ x → x ≤ d 0 → 0 ≤ cl d x ∧ cl d x ≤ d 1 := fun x a1 a2 => hD.col a1 (by omega)
  exact (k_X10_solutions l r h_x0 h_tb h_rt h_su h_sur hD hT hr9 hl9).wk (fun z u hU h => by
    obtain ⟨h1, h2, rfl⟩ := h
    exact ⟨h1, h2, hC0, hI, Eqx.rf⟩)
set_option maxHeartbeats 1000000 in
theorem c_colour (l : Launch) {G : va_G} {cy : Nat → ClassId} {ws0 : va_W} {b o : Nat} {xa : Nat → Nat} {K : Nat → Prop} {bl erp : Int} {bm d : Int → Int} {T : List Int} {dep : Int} {hs : Nat → Int → Int} (x : Int) (hC : CW cy ws0 b o xa K bl erp bm d T dep hs) (hI : CI b o K bl bm d T) (hx9 : -2147483648 ≤ x ∧ x ≤ 2147483647) (hl9 : l.stackTraces = false) : TIk l yX10_colour wsX10_colour rm_X10_colour G cy [.ref (xa 0), .int (zI x)] ws0 (fun E9 => E9 = "java/lang/IndexOutOfBoundsException" ∧ ¬ (1 ≤ x ∧ x ≤ d 0)) (fun z u => (1 ≤ x ∧ x ≤ d 0) ∧ z = d (29 + x) - 1 ∧ CW cy u b o xa K bl erp bm d T dep hs ∧ CI b o K bl bm d T ∧ Eqx ws0 u (fun j => j < b ∨ o < j)) := by
  have hC0 := hC
  obtain ⟨asu, nx, hs9, hF, hP, Dt, Tt, c1, c2, c3, c4, c5, c6, c7, c8, cD, cK⟩ := hC
  obtain ⟨h_x0, h_in, ec9, ep9, nm9, cs9, rt9, n9, k0, s0, v0, l0, e0, aol, F9, P9, rlf, pgf, h_rd, h_rc, h_rcp, h_tk7, h_rl, h_pg⟩ := id c1
  obtain ⟨tot, dee, F0, P0, op, tr, h_sr, h_sc, h_scp, h_sb, h_sbp, h_op, h_tr⟩ := id c2
  obtain ⟨gn, nu, co9, ch, h_rp, h_ch⟩ := id c3
  obtain ⟨se, re, wr, rt, wt, rs, sz, riw, h_tb, h_se, h_wr, h_rt, h_wt, h_re, h_rs, hT⟩ := id c4
  obtain ⟨h_co, h_cop⟩ := id c5
  obtain ⟨⟨h_hi, h_hsu, hFc⟩, hcf, h_hco, hcc⟩ := id c6
  obtain ⟨kS, hkS, qs, ar9, afo, qra, qf, atk, qt9, ask, rA, rr, st9, h_su, h_sur, h_fo, h_tk, h_sk, ⟨p1, p2, p3, p4⟩, hrA, hRu0⟩ := id c7
  have hD := hI.1.1
  have hn9 := hD.n
  have hb9 := hI.2.2.2.1
  have hnx := c8.1
  have hkp := c8.2.1
  have hqs : qs < 0 ∨ 0 + 46 ≤ qs := by have := p1.1; unfold SRo at this; omega
  have he : ∀ x : Int, 1 ≤ x → x ≤ d 0 → 0 ≤ cl d x ∧ cl d x ≤ d 1 := fun x a1 a2 => hD.col a1 (by omega)
  exact (k_X10_colour l x h_x0 h_su h_co h_cop hD he hx9 hl9).wk (fun z u hU h => by
    obtain ⟨h1, h2, rfl⟩ := h
    exact ⟨h1, h2, hC0, hI, Eqx.rf⟩)
set_option maxHeartbeats 1000000 in
theorem c_isFixed (l : Launch) {G : va_G} {cy : Nat → ClassId} {ws0 : va_W} {b o : Nat} {xa : Nat → Nat} {K : Nat → Prop} {bl erp : Int} {bm d : Int → Int} {T : List Int} {dep : Int} {hs : Nat → Int → Int} (x : Int) (hC : CW cy ws0 b o xa K bl erp bm d T dep hs) (hI : CI b o K bl bm d T) (hx9 : -2147483648 ≤ x ∧ x ≤ 2147483647) (hl9 : l.stackTraces = false) : TIk l yX10_isFixed wsX10_isFixed rm_X10_isFixed G cy [.ref (xa 0), .int (zI x)] ws0 (fun E9 => E9 = "java/lang/IndexOutOfBoundsException" ∧ ¬ (1 ≤ x ∧ x ≤ d 0)) (fun z u => (1 ≤ x ∧ x ≤ d 0) ∧ z = d (70 + x) ∧ CW cy u b o xa K bl erp bm d T dep hs ∧ CI b o K bl bm d T ∧ Eqx ws0 u (fun j => j < b ∨ o < j)) := by
  have hC0 := hC
  obtain ⟨asu, nx, hs9, hF, hP, Dt, Tt, c1, c2, c3, c4, c5, c6, c7, c8, cD, cK⟩ := hC
  obtain ⟨h_x0, h_in, ec9, ep9, nm9, cs9, rt9, n9, k0, s0, v0, l0, e0, aol, F9, P9, rlf, pgf, h_rd, h_rc, h_rcp, h_tk7, h_rl, h_pg⟩ := id c1
  obtain ⟨tot, dee, F0, P0, op, tr, h_sr, h_sc, h_scp, h_sb, h_sbp, h_op, h_tr⟩ := id c2
  obtain ⟨gn, nu, co9, ch, h_rp, h_ch⟩ := id c3
  obtain ⟨se, re, wr, rt, wt, rs, sz, riw, h_tb, h_se, h_wr, h_rt, h_wt, h_re, h_rs, hT⟩ := id c4
  obtain ⟨h_co, h_cop⟩ := id c5
  obtain ⟨⟨h_hi, h_hsu, hFc⟩, hcf, h_hco, hcc⟩ := id c6
  obtain ⟨kS, hkS, qs, ar9, afo, qra, qf, atk, qt9, ask, rA, rr, st9, h_su, h_sur, h_fo, h_tk, h_sk, ⟨p1, p2, p3, p4⟩, hrA, hRu0⟩ := id c7
  have hD := hI.1.1
  have hn9 := hD.n
  have hb9 := hI.2.2.2.1
  have hnx := c8.1
  have hkp := c8.2.1
  have hqs : qs < 0 ∨ 0 + 46 ≤ qs := by have := p1.1; unfold SRo at this; omega
  have he : ∀ x : Int, 1 ≤ x → x ≤ d 0 → 0 ≤ cl d x ∧ cl d x ≤ d 1 := fun x a1 a2 => hD.col a1 (by omega)
  exact (k_X10_isFixed l x h_x0 h_su h_co h_cop hD hx9 hl9).wk (fun z u hU h => by
    obtain ⟨h1, h2, rfl⟩ := h
    have h3 := hD.fix (x := x) (by omega) (by omega)
    refine ⟨h1, ?_, hC0, hI, Eqx.rf⟩
    rcases h2 with ⟨a1, a2⟩ | ⟨a1, a2⟩
    · rw [a1]; exact a2.symm
    · have a3 : d (70 + x) ≠ 1 := a2
      omega)
set_option maxHeartbeats 1000000 in
theorem c_count (l : Launch) {G : va_G} {cy : Nat → ClassId} {ws0 : va_W} {b o : Nat} {xa : Nat → Nat} {K : Nat → Prop} {bl erp : Int} {bm d : Int → Int} {T : List Int} {dep : Int} {hs : Nat → Int → Int} (x : Int) (hC : CW cy ws0 b o xa K bl erp bm d T dep hs) (hI : CI b o K bl bm d T) (hx9 : -2147483648 ≤ x ∧ x ≤ 2147483647) (hl9 : l.stackTraces = false) : TIk l yX10_count wsX10_count rm_X10_count G cy [.ref (xa 0), .int (zI x)] ws0 (fun E9 => E9 = "java/lang/IndexOutOfBoundsException" ∧ ¬ (-1 ≤ x ∧ x < d 1)) (fun z u => (-1 ≤ x ∧ x < d 1) ∧ z = sumL (fun y => if d (29 + y) = x + 1 then 1 else 0) (upto (d 0).toNat) ∧ CW cy u b o xa K bl erp bm d T dep hs ∧ CI b o K bl bm d T ∧ Eqx ws0 u (fun j => j < b ∨ o < j)) := by
  have hC0 := hC
  obtain ⟨asu, nx, hs9, hF, hP, Dt, Tt, c1, c2, c3, c4, c5, c6, c7, c8, cD, cK⟩ := hC
  obtain ⟨h_x0, h_in, ec9, ep9, nm9, cs9, rt9, n9, k0, s0, v0, l0, e0, aol, F9, P9, rlf, pgf, h_rd, h_rc, h_rcp, h_tk7, h_rl, h_pg⟩ := id c1
  obtain ⟨tot, dee, F0, P0, op, tr, h_sr, h_sc, h_scp, h_sb, h_sbp, h_op, h_tr⟩ := id c2
  obtain ⟨gn, nu, co9, ch, h_rp, h_ch⟩ := id c3
  obtain ⟨se, re, wr, rt, wt, rs, sz, riw, h_tb, h_se, h_wr, h_rt, h_wt, h_re, h_rs, hT⟩ := id c4
  obtain ⟨h_co, h_cop⟩ := id c5
  obtain ⟨⟨h_hi, h_hsu, hFc⟩, hcf, h_hco, hcc⟩ := id c6
  obtain ⟨kS, hkS, qs, ar9, afo, qra, qf, atk, qt9, ask, rA, rr, st9, h_su, h_sur, h_fo, h_tk, h_sk, ⟨p1, p2, p3, p4⟩, hrA, hRu0⟩ := id c7
  have hD := hI.1.1
  have hn9 := hD.n
  have hb9 := hI.2.2.2.1
  have hnx := c8.1
  have hkp := c8.2.1
  have hqs : qs < 0 ∨ 0 + 46 ≤ qs := by have := p1.1; unfold SRo at this; omega
  have he : ∀ x : Int, 1 ≤ x → x ≤ d 0 → 0 ≤ cl d x ∧ cl d x ≤ d 1 := fun x a1 a2 => hD.col a1 (by omega)
  exact (k_X10_count l x h_x0 h_su h_co h_cop hD he hx9 hl9).wk (fun z u hU h => by
    obtain ⟨h1, h2, rfl⟩ := h
    exact ⟨h1, h2, hC0, hI, Eqx.rf⟩)
set_option maxHeartbeats 1000000 in
theorem c_conflictsOf (l : Launch) {G : va_G} {cy : Nat → ClassId} {ws0 : va_W} {b o : Nat} {xa : Nat → Nat} {K : Nat → Prop} {bl erp : Int} {bm d : Int → Int} {T : List Int} {dep : Int} {hs : Nat → Int → Int} (x : Int) (hC : CW cy ws0 b o xa K bl erp bm d T dep hs) (hI : CI b o K bl bm d T) (hx9 : -2147483648 ≤ x ∧ x ≤ 2147483647) (hl9 : l.stackTraces = false) : TIk l yX10_conflictsOf wsX10_conflictsOf rm_X10_conflictsOf G cy [.ref (xa 0), .int (zI x)] ws0 (fun E9 => E9 = "java/lang/IndexOutOfBoundsException" ∧ ¬ (1 ≤ x ∧ x ≤ d 0)) (fun z u => (1 ≤ x ∧ x ≤ d 0) ∧ z = cnfX d (cl d) x ∧ CW cy u b o xa K bl erp bm d T dep hs ∧ CI b o K bl bm d T ∧ Eqx ws0 u (fun j => j < b ∨ o < j)) := by
  have hC0 := hC
  obtain ⟨asu, nx, hs9, hF, hP, Dt, Tt, c1, c2, c3, c4, c5, c6, c7, c8, cD, cK⟩ := hC
  obtain ⟨h_x0, h_in, ec9, ep9, nm9, cs9, rt9, n9, k0, s0, v0, l0, e0, aol, F9, P9, rlf, pgf, h_rd, h_rc, h_rcp, h_tk7, h_rl, h_pg⟩ := id c1
  obtain ⟨tot, dee, F0, P0, op, tr, h_sr, h_sc, h_scp, h_sb, h_sbp, h_op, h_tr⟩ := id c2
  obtain ⟨gn, nu, co9, ch, h_rp, h_ch⟩ := id c3
  obtain ⟨se, re, wr, rt, wt, rs, sz, riw, h_tb, h_se, h_wr, h_rt, h_wt, h_re, h_rs, hT⟩ := id c4
  obtain ⟨h_co, h_cop⟩ := id c5
  obtain ⟨⟨h_hi, h_hsu, hFc⟩, hcf, h_hco, hcc⟩ := id c6
  obtain ⟨kS, hkS, qs, ar9, afo, qra, qf, atk, qt9, ask, rA, rr, st9, h_su, h_sur, h_fo, h_tk, h_sk, ⟨p1, p2, p3, p4⟩, hrA, hRu0⟩ := id c7
  have hD := hI.1.1
  have hn9 := hD.n
  have hb9 := hI.2.2.2.1
  have hnx := c8.1
  have hkp := c8.2.1
  have hqs : qs < 0 ∨ 0 + 46 ≤ qs := by have := p1.1; unfold SRo at this; omega
  have he : ∀ x : Int, 1 ≤ x → x ≤ d 0 → 0 ≤ cl d x ∧ cl d x ≤ d 1 := fun x a1 a2 => hD.col a1 (by omega)
  exact (k_X10_conflictsOf l x h_x0 h_su h_co h_cop h_tb h_se hD hT he hx9 hl9).wk (fun z u hU h => by
    obtain ⟨h1, h2, rfl⟩ := h
    exact ⟨h1, h2, hC0, hI, Eqx.rf⟩)
set_option maxHeartbeats 1000000 in
theorem c_allowed (l : Launch) {G : va_G} {cy : Nat → ClassId} {ws0 : va_W} {b o : Nat} {xa : Nat → Nat} {K : Nat → Prop} {bl erp : Int} {bm d : Int → Int} {T : List Int} {dep : Int} {hs : Nat → Int → Int} (x : Int) (hC : CW cy ws0 b o xa K bl erp bm d T dep hs) (hI : CI b o K bl bm d T) (hx9 : -2147483648 ≤ x ∧ x ≤ 2147483647) (hl9 : l.stackTraces = false) : TIk l yX10_allowed wsX10_allowed rm_X10_allowed G cy [.ref (xa 0), .int (zI x)] ws0 (fun E9 => E9 = "java/lang/IndexOutOfBoundsException" ∧ ¬ (1 ≤ x ∧ x ≤ d 0)) (fun z u => (1 ≤ x ∧ x ≤ d 0) ∧ z = setN d x (d 1).toNat ∧ CW cy u b o xa K bl erp bm d T dep hs ∧ CI b o K bl bm d T ∧ Eqx ws0 u (fun j => j < b ∨ o < j)) := by
  have hC0 := hC
  obtain ⟨asu, nx, hs9, hF, hP, Dt, Tt, c1, c2, c3, c4, c5, c6, c7, c8, cD, cK⟩ := hC
  obtain ⟨h_x0, h_in, ec9, ep9, nm9, cs9, rt9, n9, k0, s0, v0, l0, e0, aol, F9, P9, rlf, pgf, h_rd, h_rc, h_rcp, h_tk7, h_rl, h_pg⟩ := id c1
  obtain ⟨tot, dee, F0, P0, op, tr, h_sr, h_sc, h_scp, h_sb, h_sbp, h_op, h_tr⟩ := id c2
  obtain ⟨gn, nu, co9, ch, h_rp, h_ch⟩ := id c3
  obtain ⟨se, re, wr, rt, wt, rs, sz, riw, h_tb, h_se, h_wr, h_rt, h_wt, h_re, h_rs, hT⟩ := id c4
  obtain ⟨h_co, h_cop⟩ := id c5
  obtain ⟨⟨h_hi, h_hsu, hFc⟩, hcf, h_hco, hcc⟩ := id c6
  obtain ⟨kS, hkS, qs, ar9, afo, qra, qf, atk, qt9, ask, rA, rr, st9, h_su, h_sur, h_fo, h_tk, h_sk, ⟨p1, p2, p3, p4⟩, hrA, hRu0⟩ := id c7
  have hD := hI.1.1
  have hn9 := hD.n
  have hb9 := hI.2.2.2.1
  have hnx := c8.1
  have hkp := c8.2.1
  have hqs : qs < 0 ∨ 0 + 46 ≤ qs := by have := p1.1; unfold SRo at this; omega
  have he : ∀ x : Int, 1 ≤ x → x ≤ d 0 → 0 ≤ cl d x ∧ cl d x ≤ d 1 := fun x a1 a2 => hD.col a1 (by omega)
  exact (k_X10_allowed l x h_x0 h_su h_co h_cop h_tb h_re h_rs hD hT hx9 hl9).wk (fun z u hU h => by
    obtain ⟨h1, h2, rfl⟩ := h
    exact ⟨h1, h2, hC0, hI, Eqx.rf⟩)
set_option maxHeartbeats 1000000 in
theorem c_conflict (l : Launch) {G : va_G} {cy : Nat → ClassId} {ws0 : va_W} {b o : Nat} {xa : Nat → Nat} {K : Nat → Prop} {bl erp : Int} {bm d : Int → Int} {T : List Int} {dep : Int} {hs : Nat → Int → Int} (ix wh : Int) (hC : CW cy ws0 b o xa K bl erp bm d T dep hs) (hI : CI b o K bl bm d T) (hr9 : (-2147483648 ≤ ix ∧ ix ≤ 2147483647) ∧ (-2147483648 ≤ wh ∧ wh ≤ 2147483647)) (hl9 : l.stackTraces = false) : TIk l yX10_conflict wsQ10_conflict rm_X10_conflict G cy [.ref (xa 0), .int (zI ix), .int (zI wh)] ws0 (fun E9 => E9 = "java/util/NoSuchElementException" ∧ ¬ (0 ≤ ix ∧ ix < cnfA d (cl d)) ∨ E9 = "java/lang/IllegalArgumentException" ∧ (0 ≤ ix ∧ ix < cnfA d (cl d)) ∧ ¬ (0 ≤ wh ∧ wh ≤ 4)) (fun z u => (0 ≤ ix ∧ ix < cnfA d (cl d)) ∧ (0 ≤ wh ∧ wh ≤ 4) ∧ (∃ (s : Nat) (q : Ky), (KL d)[s]? = some q ∧ cAll d (cl d) q ≠ -1 ∧ sumL (fun q => is1 d (cl d) q) ((KL d).take s) = ix ∧ z = (if wh = 0 then q.1 else if wh = 3 then cAll d (cl d) q else if wh = 4 then wK d T q (cAll d (cl d) q) else if wh = 1 then lil d q else big d q)) ∧ CW cy u b o xa K bl erp bm d T dep hs ∧ CI b o K bl bm d T ∧ Eqx ws0 u (fun j => j < b ∨ o < j)) := by
  have hC0 := hC
  obtain ⟨asu, nx, hs9, hF, hP, Dt, Tt, c1, c2, c3, c4, c5, c6, c7, c8, cD, cK⟩ := hC
  obtain ⟨h_x0, h_in, ec9, ep9, nm9, cs9, rt9, n9, k0, s0, v0, l0, e0, aol, F9, P9, rlf, pgf, h_rd, h_rc, h_rcp, h_tk7, h_rl, h_pg⟩ := id c1
  obtain ⟨tot, dee, F0, P0, op, tr, h_sr, h_sc, h_scp, h_sb, h_sbp, h_op, h_tr⟩ := id c2
  obtain ⟨gn, nu, co9, ch, h_rp, h_ch⟩ := id c3
  obtain ⟨se, re, wr, rt, wt, rs, sz, riw, h_tb, h_se, h_wr, h_rt, h_wt, h_re, h_rs, hT⟩ := id c4
  obtain ⟨h_co, h_cop⟩ := id c5
  obtain ⟨⟨h_hi, h_hsu, hFc⟩, hcf, h_hco, hcc⟩ := id c6
  obtain ⟨kS, hkS, qs, ar9, afo, qra, qf, atk, qt9, ask, rA, rr, st9, h_su, h_sur, h_fo, h_tk, h_sk, ⟨p1, p2, p3, p4⟩, hrA, hRu0⟩ := id c7
  have hD := hI.1.1
  have hn9 := hD.n
  have hb9 := hI.2.2.2.1
  have hnx := c8.1
  have hkp := c8.2.1
  have hqs : qs < 0 ∨ 0 + 46 ≤ qs := by have := p1.1; unfold SRo at this; omega
  have he : ∀ x : Int, 1 ≤ x → x ≤ d 0 → 0 ≤ cl d x ∧ cl d x ≤ d 1 := fun x a1 a2 => hD.col a1 (by omega)
  exact (k_Q10_conflict l ix wh h_x0 h_su h_co h_cop h_tb h_se h_wr h_wt hD hT hr9 hl9).wk (fun z u hU h => by
    obtain ⟨h1, h2, h3, rfl⟩ := h
    exact ⟨h1, h2, h3, hC0, hI, Eqx.rf⟩)
set_option maxHeartbeats 1000000 in
theorem c_canExtend (l : Launch) {G : va_G} {cy : Nat → ClassId} {ws0 : va_W} {b o : Nat} {xa : Nat → Nat} {K : Nat → Prop} {bl erp : Int} {bm d : Int → Int} {T : List Int} {dep : Int} {hs : Nat → Int → Int} (x y : Int) (hC : CW cy ws0 b o xa K bl erp bm d T dep hs) (hI : CI b o K bl bm d T) (hx9 : -2147483648 ≤ x ∧ x ≤ 2147483647) (hy9 : -2147483648 ≤ y ∧ y ≤ 2147483647) (hl9 : l.stackTraces = false) : TIk l yX10_canExtend wsX10_canExtend rm_X10_canExtend G cy [.ref (xa 0), .int (zI x), .int (zI y)] ws0 (fun E9 => E9 = "java/lang/IndexOutOfBoundsException" ∧ ¬ (1 ≤ x ∧ x ≤ d 0) ∨ E9 = "java/lang/IllegalArgumentException" ∧ (1 ≤ x ∧ x ≤ d 0) ∧ ¬ (1 ≤ y ∧ y ≤ 3000)) (fun z u => (1 ≤ x ∧ x ≤ d 0) ∧ (1 ≤ y ∧ y ≤ 3000) ∧ z = (SR d x y).1 ∧ CW cy u b o xa K bl erp bm d T dep hs ∧ CI b o K bl bm d T ∧ Eqx ws0 u (fun j => j < b ∨ o < j)) := by
  have hC0 := hC
  obtain ⟨asu, nx, hs9, hF, hP, Dt, Tt, c1, c2, c3, c4, c5, c6, c7, c8, cD, cK⟩ := hC
  obtain ⟨h_x0, h_in, ec9, ep9, nm9, cs9, rt9, n9, k0, s0, v0, l0, e0, aol, F9, P9, rlf, pgf, h_rd, h_rc, h_rcp, h_tk7, h_rl, h_pg⟩ := id c1
  obtain ⟨tot, dee, F0, P0, op, tr, h_sr, h_sc, h_scp, h_sb, h_sbp, h_op, h_tr⟩ := id c2
  obtain ⟨gn, nu, co9, ch, h_rp, h_ch⟩ := id c3
  obtain ⟨se, re, wr, rt, wt, rs, sz, riw, h_tb, h_se, h_wr, h_rt, h_wt, h_re, h_rs, hT⟩ := id c4
  obtain ⟨h_co, h_cop⟩ := id c5
  obtain ⟨⟨h_hi, h_hsu, hFc⟩, hcf, h_hco, hcc⟩ := id c6
  obtain ⟨kS, hkS, qs, ar9, afo, qra, qf, atk, qt9, ask, rA, rr, st9, h_su, h_sur, h_fo, h_tk, h_sk, ⟨p1, p2, p3, p4⟩, hrA, hRu0⟩ := id c7
  have hD := hI.1.1
  have hn9 := hD.n
  have hb9 := hI.2.2.2.1
  have hnx := c8.1
  have hkp := c8.2.1
  have hqs : qs < 0 ∨ 0 + 46 ≤ qs := by have := p1.1; unfold SRo at this; omega
  have he : ∀ x : Int, 1 ≤ x → x ≤ d 0 → 0 ≤ cl d x ∧ cl d x ≤ d 1 := fun x a1 a2 => hD.col a1 (by omega)
  exact (k_X10_canExtend l x y h_x0 h_su h_co h_cop h_tb h_re h_rs h_sr h_sc h_scp h_sb h_sbp h_op h_tr hD hT ⟨rfl, rfl, rfl⟩ hqs hx9 hy9 hl9).wk (fun z u hU h => by
    obtain ⟨h1, h2, h3, ⟨op2, tr2, P2, F2, t2, d2, k1, k2, k3, k4, k5⟩, hE⟩ := h
    have hE2 : Eqx ws0 u (fun j => 18 ≤ j ∧ j < 25) := hE.wk (fun j hj => by omega)
    have hS : CS cy u xa := ⟨t2, d2, F2, P2, op2, tr2, k1, k2, k3, hE.at h_sb (by omega), hE.at h_sbp (by omega), k4, k5⟩
    have hs2 : SX2 cy ws0 u b o K (fun j => 18 ≤ j ∧ j < 25) := SX2.lo (fun j hj => by omega) hI.2.2.2.2 hb9
    have hW : CW cy u b o xa K bl erp bm d T dep hs := ⟨asu, nx, hs9, hF, hP, Dt, Tt, c1.keep hE2 (fun j hj => by omega), hS, c3.keep hE2 (fun j _ hj => by omega), c4.keep hE2 (fun j _ hj => by omega), c5.keep hE2 (fun j _ hj => by omega), c6.keep hE2 (fun j _ hj => by omega), c7.keep hE2 hs2, c8.keep hE2 hs2, cD, fun k hk => Nat.lt_of_lt_of_le (cK k hk) hE2.1⟩
    exact ⟨h1, h2, by rw [SR_sr (by omega)]; exact h3, hW, hI, hE2.wk (fun j hj => by omega)⟩)
set_option maxHeartbeats 1000000 in
theorem c_longest (l : Launch) {G : va_G} {cy : Nat → ClassId} {ws0 : va_W} {b o : Nat} {xa : Nat → Nat} {K : Nat → Prop} {bl erp : Int} {bm d : Int → Int} {T : List Int} {dep : Int} {hs : Nat → Int → Int} (y : Int) (hC : CW cy ws0 b o xa K bl erp bm d T dep hs) (hI : CI b o K bl bm d T) (hy9 : -2147483648 ≤ y ∧ y ≤ 2147483647) (hl9 : l.stackTraces = false) : TIk l yX10_longest wsX10_longest rm_X10_longest G cy [.ref (xa 0), .int (zI y)] ws0 (fun E9 => E9 = "java/lang/IllegalArgumentException" ∧ ¬ (1 ≤ y ∧ y ≤ 3000)) (fun z u => (1 ≤ y ∧ y ≤ 3000) ∧ z = lng d y ∧ CW cy u b o xa K bl erp bm d T dep hs ∧ CI b o K bl bm d T ∧ Eqx ws0 u (fun j => j < b ∨ o < j)) := by
  have hC0 := hC
  obtain ⟨asu, nx, hs9, hF, hP, Dt, Tt, c1, c2, c3, c4, c5, c6, c7, c8, cD, cK⟩ := hC
  obtain ⟨h_x0, h_in, ec9, ep9, nm9, cs9, rt9, n9, k0, s0, v0, l0, e0, aol, F9, P9, rlf, pgf, h_rd, h_rc, h_rcp, h_tk7, h_rl, h_pg⟩ := id c1
  obtain ⟨tot, dee, F0, P0, op, tr, h_sr, h_sc, h_scp, h_sb, h_sbp, h_op, h_tr⟩ := id c2
  obtain ⟨gn, nu, co9, ch, h_rp, h_ch⟩ := id c3
  obtain ⟨se, re, wr, rt, wt, rs, sz, riw, h_tb, h_se, h_wr, h_rt, h_wt, h_re, h_rs, hT⟩ := id c4
  obtain ⟨h_co, h_cop⟩ := id c5
  obtain ⟨⟨h_hi, h_hsu, hFc⟩, hcf, h_hco, hcc⟩ := id c6
  obtain ⟨kS, hkS, qs, ar9, afo, qra, qf, atk, qt9, ask, rA, rr, st9, h_su, h_sur, h_fo, h_tk, h_sk, ⟨p1, p2, p3, p4⟩, hrA, hRu0⟩ := id c7
  have hD := hI.1.1
  have hn9 := hD.n
  have hb9 := hI.2.2.2.1
  have hnx := c8.1
  have hkp := c8.2.1
  have hqs : qs < 0 ∨ 0 + 46 ≤ qs := by have := p1.1; unfold SRo at this; omega
  have he : ∀ x : Int, 1 ≤ x → x ≤ d 0 → 0 ≤ cl d x ∧ cl d x ≤ d 1 := fun x a1 a2 => hD.col a1 (by omega)
  exact (k_X10_longest l y h_x0 h_su h_co h_cop h_tb h_re h_rs h_sr h_sc h_scp h_sb h_sbp h_op h_tr hD hT ⟨rfl, rfl, rfl⟩ hqs hy9 hl9).wk (fun z u hU h => by
    obtain ⟨h2, h3, ⟨op2, tr2, P2, F2, t2, d2, k1, k2, k3, k4, k5⟩, hE⟩ := h
    have hE2 : Eqx ws0 u (fun j => 18 ≤ j ∧ j < 25) := hE.wk (fun j hj => by omega)
    have hS : CS cy u xa := ⟨t2, d2, F2, P2, op2, tr2, k1, k2, k3, hE.at h_sb (by omega), hE.at h_sbp (by omega), k4, k5⟩
    have hs2 : SX2 cy ws0 u b o K (fun j => 18 ≤ j ∧ j < 25) := SX2.lo (fun j hj => by omega) hI.2.2.2.2 hb9
    have hW : CW cy u b o xa K bl erp bm d T dep hs := ⟨asu, nx, hs9, hF, hP, Dt, Tt, c1.keep hE2 (fun j hj => by omega), hS, c3.keep hE2 (fun j _ hj => by omega), c4.keep hE2 (fun j _ hj => by omega), c5.keep hE2 (fun j _ hj => by omega), c6.keep hE2 (fun j _ hj => by omega), c7.keep hE2 hs2, c8.keep hE2 hs2, cD, fun k hk => Nat.lt_of_lt_of_le (cK k hk) hE2.1⟩
    exact ⟨h2, h3.trans (lng_sr hD).symm, hW, hI, hE2.wk (fun j hj => by omega)⟩)
set_option maxHeartbeats 1000000 in
theorem c_bestGain (l : Launch) {G : va_G} {cy : Nat → ClassId} {ws0 : va_W} {b o : Nat} {xa : Nat → Nat} {K : Nat → Prop} {bl erp : Int} {bm d : Int → Int} {T : List Int} {dep : Int} {hs : Nat → Int → Int}  (hC : CW cy ws0 b o xa K bl erp bm d T dep hs) (hI : CI b o K bl bm d T)  : MIk l yX10_bestGain wsX10_bestGain rm_X10_bestGain G cy [.ref (xa 0)] ws0  (fun z u => z = (bst d T d).1 ∧ CW cy u b o xa K bl erp bm d T dep hs ∧ CI b o K bl bm d T ∧ Eqx ws0 u (fun j => j < b ∨ o < j)) := by
  have hC0 := hC
  obtain ⟨asu, nx, hs9, hF, hP, Dt, Tt, c1, c2, c3, c4, c5, c6, c7, c8, cD, cK⟩ := hC
  obtain ⟨h_x0, h_in, ec9, ep9, nm9, cs9, rt9, n9, k0, s0, v0, l0, e0, aol, F9, P9, rlf, pgf, h_rd, h_rc, h_rcp, h_tk7, h_rl, h_pg⟩ := id c1
  obtain ⟨tot, dee, F0, P0, op, tr, h_sr, h_sc, h_scp, h_sb, h_sbp, h_op, h_tr⟩ := id c2
  obtain ⟨gn, nu, co9, ch, h_rp, h_ch⟩ := id c3
  obtain ⟨se, re, wr, rt, wt, rs, sz, riw, h_tb, h_se, h_wr, h_rt, h_wt, h_re, h_rs, hT⟩ := id c4
  obtain ⟨h_co, h_cop⟩ := id c5
  obtain ⟨⟨h_hi, h_hsu, hFc⟩, hcf, h_hco, hcc⟩ := id c6
  obtain ⟨kS, hkS, qs, ar9, afo, qra, qf, atk, qt9, ask, rA, rr, st9, h_su, h_sur, h_fo, h_tk, h_sk, ⟨p1, p2, p3, p4⟩, hrA, hRu0⟩ := id c7
  have hD := hI.1.1
  have hn9 := hD.n
  have hb9 := hI.2.2.2.1
  have hnx := c8.1
  have hkp := c8.2.1
  have hqs : qs < 0 ∨ 0 + 46 ≤ qs := by have := p1.1; unfold SRo at this; omega
  have he : ∀ x : Int, 1 ≤ x → x ≤ d 0 → 0 ≤ cl d x ∧ cl d x ≤ d 1 := fun x a1 a2 => hD.col a1 (by omega)
  exact (k_X10_bestGain l h_x0 h_su h_co h_cop h_tb h_se h_wr h_wt h_rp h_ch hD hT ⟨rfl, rfl, rfl⟩ hqs).wk (fun z u hU h => by
    obtain ⟨h1, ⟨nu2, co2, ch2, k1, k2⟩, hE⟩ := h
    have hE2 : Eqx ws0 u (fun j => 25 ≤ j ∧ j < 27) := hE.wk (fun j hj => by omega)
    have hR : CR cy u xa := ⟨_, nu2, co2, ch2, k1, k2⟩
    have hs2 : SX2 cy ws0 u b o K (fun j => 25 ≤ j ∧ j < 27) := SX2.lo (fun j hj => by omega) hI.2.2.2.2 hb9
    exact ⟨h1, ⟨asu, nx, hs9, hF, hP, Dt, Tt, c1.keep hE2 (fun j hj => by omega), c2.keep hE2 (fun j _ hj => by omega), hR, c4.keep hE2 (fun j _ hj => by omega), c5.keep hE2 (fun j _ hj => by omega), c6.keep hE2 (fun j _ hj => by omega), c7.keep hE2 hs2, c8.keep hE2 hs2, cD, fun k hk => Nat.lt_of_lt_of_le (cK k hk) hE2.1⟩, hI, hE2.wk (fun j hj => by omega)⟩)
set_option maxHeartbeats 1000000 in
theorem c_setColour (l : Launch) {G : va_G} {cy : Nat → ClassId} {ws0 : va_W} {b o : Nat} {xa : Nat → Nat} {K : Nat → Prop} {bl erp : Int} {bm d : Int → Int} {T : List Int} {dep : Int} {hs : Nat → Int → Int} (x c9 : Int) (hC : CW cy ws0 b o xa K bl erp bm d T dep hs) (hI : CI b o K bl bm d T) (hx9 : -2147483648 ≤ x ∧ x ≤ 2147483647) (hc9 : -2147483648 ≤ c9 ∧ c9 ≤ 2147483647) (hl9 : l.stackTraces = false) : TIk l yX10_setColour wsX10_setColour rm_X10_setColour G cy [.ref (xa 0), .int (zI x), .int (zI c9)] ws0 (fun E9 => E9 = "java/lang/IndexOutOfBoundsException" ∧ ¬ (1 ≤ x ∧ x ≤ d 0) ∨ E9 = "java/lang/IndexOutOfBoundsException" ∧ (1 ≤ x ∧ x ≤ d 0) ∧ ¬ (-1 ≤ c9 ∧ c9 < d 1) ∨ E9 = "java/lang/IllegalStateException" ∧ (1 ≤ x ∧ x ≤ d 0) ∧ (-1 ≤ c9 ∧ c9 < d 1) ∧ d (70 + x) = 1) (fun z u => (1 ≤ x ∧ x ≤ d 0) ∧ (-1 ≤ c9 ∧ c9 < d 1) ∧ d (70 + x) ≠ 1 ∧ z = d (29 + x) - 1 ∧ CW cy u b o xa K bl erp bm (uZ d (29 + x) (c9 + 1)) T (rn dep) (rem dep hs d) ∧ CI b o K bl bm (uZ d (29 + x) (c9 + 1)) T ∧ Eqx ws0 u (fun j => j < b ∨ o < j)) := by
  have hC0 := hC
  obtain ⟨asu, nx, hs9, hF, hP, Dt, Tt, c1, c2, c3, c4, c5, c6, c7, c8, cD, cK⟩ := hC
  obtain ⟨h_x0, h_in, ec9, ep9, nm9, cs9, rt9, n9, k0, s0, v0, l0, e0, aol, F9, P9, rlf, pgf, h_rd, h_rc, h_rcp, h_tk7, h_rl, h_pg⟩ := id c1
  obtain ⟨tot, dee, F0, P0, op, tr, h_sr, h_sc, h_scp, h_sb, h_sbp, h_op, h_tr⟩ := id c2
  obtain ⟨gn, nu, co9, ch, h_rp, h_ch⟩ := id c3
  obtain ⟨se, re, wr, rt, wt, rs, sz, riw, h_tb, h_se, h_wr, h_rt, h_wt, h_re, h_rs, hT⟩ := id c4
  obtain ⟨h_co, h_cop⟩ := id c5
  obtain ⟨⟨h_hi, h_hsu, hFc⟩, hcf, h_hco, hcc⟩ := id c6
  obtain ⟨kS, hkS, qs, ar9, afo, qra, qf, atk, qt9, ask, rA, rr, st9, h_su, h_sur, h_fo, h_tk, h_sk, ⟨p1, p2, p3, p4⟩, hrA, hRu0⟩ := id c7
  have hD := hI.1.1
  have hn9 := hD.n
  have hb9 := hI.2.2.2.1
  have hnx := c8.1
  have hkp := c8.2.1
  have hqs : qs < 0 ∨ 0 + 46 ≤ qs := by have := p1.1; unfold SRo at this; omega
  have he : ∀ x : Int, 1 ≤ x → x ≤ d 0 → 0 ≤ cl d x ∧ cl d x ≤ d 1 := fun x a1 a2 => hD.col a1 (by omega)
  exact (k_X10_setColour l x c9 h_x0 h_su h_co h_cop h_hi h_hsu h_hco hD ⟨rfl, rfl⟩ hqs hx9 hc9 hnx hkp hcc hFc hl9).wk (fun z u hU h => by
    obtain ⟨h1, h2, h3, h4, k1, k2, hH, hE⟩ := h
    have hse : SE d (uZ d (29 + x) (c9 + 1)) := se_col (by omega)
    have hO : CO2 cy u xa (uZ d (29 + x) (c9 + 1)) := CO2.of hse k1 k2
    have hS : CS cy u xa := c2.keep hE (fun j _ hj => by omega)
    have hR : CR cy u xa := c3.keep hE (fun j _ hj => by omega)
    have hw := CW.wr c1 c4 c6 c7 c8 cD cK hI hE (fun j hj => by omega) hS hR hO hH hse
    have hD2 : DW (uZ d (29 + x) (c9 + 1)) T := hD.setcol (by omega) (by omega)
    exact ⟨h1, h2, h3, h4, hw.1, hI.sub hD2, hw.2⟩)
set_option maxHeartbeats 1000000 in
theorem c_setFixed (l : Launch) {G : va_G} {cy : Nat → ClassId} {ws0 : va_W} {b o : Nat} {xa : Nat → Nat} {K : Nat → Prop} {bl erp : Int} {bm d : Int → Int} {T : List Int} {dep : Int} {hs : Nat → Int → Int} (x v : Int) (hC : CW cy ws0 b o xa K bl erp bm d T dep hs) (hI : CI b o K bl bm d T) (hx9 : -2147483648 ≤ x ∧ x ≤ 2147483647) (hv : v = 0 ∨ v = 1) (hl9 : l.stackTraces = false) : TIk l yX10_setFixed wsX10_setFixed rm_X10_setFixed G cy [.ref (xa 0), .int (zI x), .int (zI v)] ws0 (fun E9 => E9 = "java/lang/IndexOutOfBoundsException" ∧ ¬ (1 ≤ x ∧ x ≤ d 0) ∨ E9 = "java/lang/IllegalStateException" ∧ (1 ≤ x ∧ x ≤ d 0) ∧ v = 1 ∧ d (29 + x) = 0) (fun z u => (1 ≤ x ∧ x ≤ d 0) ∧ ¬ (v = 1 ∧ d (29 + x) = 0) ∧ z = d (70 + x) ∧ CW cy u b o xa K bl erp bm (uZ d (70 + x) v) T (rn dep) (rem dep hs d) ∧ CI b o K bl bm (uZ d (70 + x) v) T ∧ Eqx ws0 u (fun j => j < b ∨ o < j)) := by
  have hC0 := hC
  obtain ⟨asu, nx, hs9, hF, hP, Dt, Tt, c1, c2, c3, c4, c5, c6, c7, c8, cD, cK⟩ := hC
  obtain ⟨h_x0, h_in, ec9, ep9, nm9, cs9, rt9, n9, k0, s0, v0, l0, e0, aol, F9, P9, rlf, pgf, h_rd, h_rc, h_rcp, h_tk7, h_rl, h_pg⟩ := id c1
  obtain ⟨tot, dee, F0, P0, op, tr, h_sr, h_sc, h_scp, h_sb, h_sbp, h_op, h_tr⟩ := id c2
  obtain ⟨gn, nu, co9, ch, h_rp, h_ch⟩ := id c3
  obtain ⟨se, re, wr, rt, wt, rs, sz, riw, h_tb, h_se, h_wr, h_rt, h_wt, h_re, h_rs, hT⟩ := id c4
  obtain ⟨h_co, h_cop⟩ := id c5
  obtain ⟨⟨h_hi, h_hsu, hFc⟩, hcf, h_hco, hcc⟩ := id c6
  obtain ⟨kS, hkS, qs, ar9, afo, qra, qf, atk, qt9, ask, rA, rr, st9, h_su, h_sur, h_fo, h_tk, h_sk, ⟨p1, p2, p3, p4⟩, hrA, hRu0⟩ := id c7
  have hD := hI.1.1
  have hn9 := hD.n
  have hb9 := hI.2.2.2.1
  have hnx := c8.1
  have hkp := c8.2.1
  have hqs : qs < 0 ∨ 0 + 46 ≤ qs := by have := p1.1; unfold SRo at this; omega
  have he : ∀ x : Int, 1 ≤ x → x ≤ d 0 → 0 ≤ cl d x ∧ cl d x ≤ d 1 := fun x a1 a2 => hD.col a1 (by omega)
  exact (k_X10_setFixed l x v h_x0 h_su h_co h_cop h_hi h_hsu h_hco hD ⟨rfl, rfl⟩ hqs hx9 hv hnx hkp hcc hFc hl9).wk (fun z u hU h => by
    obtain ⟨h1, h2, h4, k1, k2, hH, hE⟩ := h
    have h3 := hD.fix (x := x) (by omega) (by omega)
    have hse : SE d (uZ d (70 + x) v) := se_fix (by omega)
    have hO : CO2 cy u xa (uZ d (70 + x) v) := CO2.of hse k1 k2
    have hS : CS cy u xa := c2.keep hE (fun j _ hj => by omega)
    have hR : CR cy u xa := c3.keep hE (fun j _ hj => by omega)
    have hw := CW.wr c1 c4 c6 c7 c8 cD cK hI hE (fun j hj => by omega) hS hR hO hH hse
    have hD2 : DW (uZ d (70 + x) v) T := hD.setfix (by omega) (by omega)
    exact ⟨h1, h2, by omega, hw.1, hI.sub hD2, hw.2⟩)
set_option maxHeartbeats 1000000 in
theorem c_swapColours (l : Launch) {G : va_G} {cy : Nat → ClassId} {ws0 : va_W} {b o : Nat} {xa : Nat → Nat} {K : Nat → Prop} {bl erp : Int} {bm d : Int → Int} {T : List Int} {dep : Int} {hs : Nat → Int → Int} (o1 o2 : Int) (hC : CW cy ws0 b o xa K bl erp bm d T dep hs) (hI : CI b o K bl bm d T) (hx9 : (-2147483648 ≤ o1 ∧ o1 ≤ 2147483647) ∧ (-2147483648 ≤ o2 ∧ o2 ≤ 2147483647)) (hl9 : l.stackTraces = false) : TIk l yX10_swapColours wsX10_swapColours rm_X10_swapColours G cy [.ref (xa 0), .int (zI o1), .int (zI o2)] ws0 (fun E9 => E9 = "java/lang/IndexOutOfBoundsException" ∧ ¬ (0 ≤ o1 ∧ o1 < d 1) ∨ E9 = "java/lang/IndexOutOfBoundsException" ∧ (0 ≤ o1 ∧ o1 < d 1) ∧ ¬ (0 ≤ o2 ∧ o2 < d 1)) (fun z u => (0 ≤ o1 ∧ o1 < d 1) ∧ (0 ≤ o2 ∧ o2 < d 1) ∧ z = sumL (fun y => if d (29 + y) = swD d o1 o2 (29 + y) then 0 else 1) (upto (d 0).toNat) ∧ CW cy u b o xa K bl erp bm (swD d o1 o2) T (rn dep) (rem dep hs d) ∧ CI b o K bl bm (swD d o1 o2) T ∧ Eqx ws0 u (fun j => j < b ∨ o < j)) := by
  have hC0 := hC
  obtain ⟨asu, nx, hs9, hF, hP, Dt, Tt, c1, c2, c3, c4, c5, c6, c7, c8, cD, cK⟩ := hC
  obtain ⟨h_x0, h_in, ec9, ep9, nm9, cs9, rt9, n9, k0, s0, v0, l0, e0, aol, F9, P9, rlf, pgf, h_rd, h_rc, h_rcp, h_tk7, h_rl, h_pg⟩ := id c1
  obtain ⟨tot, dee, F0, P0, op, tr, h_sr, h_sc, h_scp, h_sb, h_sbp, h_op, h_tr⟩ := id c2
  obtain ⟨gn, nu, co9, ch, h_rp, h_ch⟩ := id c3
  obtain ⟨se, re, wr, rt, wt, rs, sz, riw, h_tb, h_se, h_wr, h_rt, h_wt, h_re, h_rs, hT⟩ := id c4
  obtain ⟨h_co, h_cop⟩ := id c5
  obtain ⟨⟨h_hi, h_hsu, hFc⟩, hcf, h_hco, hcc⟩ := id c6
  obtain ⟨kS, hkS, qs, ar9, afo, qra, qf, atk, qt9, ask, rA, rr, st9, h_su, h_sur, h_fo, h_tk, h_sk, ⟨p1, p2, p3, p4⟩, hrA, hRu0⟩ := id c7
  have hD := hI.1.1
  have hn9 := hD.n
  have hb9 := hI.2.2.2.1
  have hnx := c8.1
  have hkp := c8.2.1
  have hqs : qs < 0 ∨ 0 + 46 ≤ qs := by have := p1.1; unfold SRo at this; omega
  have he : ∀ x : Int, 1 ≤ x → x ≤ d 0 → 0 ≤ cl d x ∧ cl d x ≤ d 1 := fun x a1 a2 => hD.col a1 (by omega)
  exact (k_X10_swapColours l o1 o2 h_x0 h_su h_co h_cop h_hi h_hsu h_hco hD ⟨rfl, rfl⟩ hqs hx9 hnx hkp hcc hFc hl9).wk (fun z u hU h => by
    obtain ⟨h1, h2, h4, k1, hH, hE⟩ := h
    have hz : z = sumL (fun y => if d (29 + y) = swD d o1 o2 (29 + y) then 0 else 1) (upto (d 0).toNat) ∧ u[17]? = some (xa 17, aL cy 4 (mk (d 0) (cl (swD d o1 o2)))) := by
      rcases h4 with ⟨rfl, a1, a2⟩ | ⟨a0, a1, a2⟩
      · exact ⟨a1.trans swD_cnt0.symm, by rw [swD_self]; exact a2⟩
      · exact ⟨a1.trans (swD_cnt hn9.1 a0).symm, by rw [← swD_mk hD]; exact a2⟩
    have hse : SE d (swD d o1 o2) := se_swD hD _ _
    have hO : CO2 cy u xa (swD d o1 o2) := CO2.of hse (by rw [← swD_fmk hD]; exact k1) hz.2
    have hS : CS cy u xa := c2.keep hE (fun j _ hj => by omega)
    have hR : CR cy u xa := c3.keep hE (fun j _ hj => by omega)
    have hw := CW.wr c1 c4 c6 c7 c8 cD cK hI hE (fun j hj => by omega) hS hR hO hH hse
    have hD2 : DW (swD d o1 o2) T := dw_swD hD h1 h2
    exact ⟨h1, h2, hz.1, hw.1, hI.sub hD2, hw.2⟩)
set_option maxHeartbeats 1000000 in
theorem c_extend (l : Launch) {G : va_G} {cy : Nat → ClassId} {ws0 : va_W} {b o : Nat} {xa : Nat → Nat} {K : Nat → Prop} {bl erp : Int} {bm d : Int → Int} {T : List Int} {dep : Int} {hs : Nat → Int → Int} (x y : Int) (hC : CW cy ws0 b o xa K bl erp bm d T dep hs) (hI : CI b o K bl bm d T) (hx9 : -2147483648 ≤ x ∧ x ≤ 2147483647) (hy9 : -2147483648 ≤ y ∧ y ≤ 2147483647) (hl9 : l.stackTraces = false) : TIk l yX10_extend wsX10_extend rm_X10_extend G cy [.ref (xa 0), .int (zI x), .int (zI y)] ws0 (fun E9 => E9 = "java/lang/IndexOutOfBoundsException" ∧ ¬ (1 ≤ x ∧ x ≤ d 0) ∨ E9 = "java/lang/IllegalArgumentException" ∧ (1 ≤ x ∧ x ≤ d 0) ∧ ¬ (1 ≤ y ∧ y ≤ 3000)) (fun z u => (1 ≤ x ∧ x ≤ d 0) ∧ (1 ≤ y ∧ y ≤ 3000) ∧ z = (SR d x y).1 ∧ ∃ (n2 : Int) (d2 : Int → Int) (hs2 : Nat → Int → Int), (z < 0 ∧ n2 = dep ∧ d2 = d ∧ hs2 = hs ∨ 0 ≤ z ∧ n2 = rn dep ∧ d2 = (SR d x y).2.2 ∧ hs2 = rem dep hs d) ∧ CW cy u b o xa K bl erp bm d2 T n2 hs2 ∧ CI b o K bl bm d2 T ∧ Eqx ws0 u (fun j => j < b ∨ o < j)) := by
  have hC0 := hC
  obtain ⟨asu, nx, hs9, hF, hP, Dt, Tt, c1, c2, c3, c4, c5, c6, c7, c8, cD, cK⟩ := hC
  obtain ⟨h_x0, h_in, ec9, ep9, nm9, cs9, rt9, n9, k0, s0, v0, l0, e0, aol, F9, P9, rlf, pgf, h_rd, h_rc, h_rcp, h_tk7, h_rl, h_pg⟩ := id c1
  obtain ⟨tot, dee, F0, P0, op, tr, h_sr, h_sc, h_scp, h_sb, h_sbp, h_op, h_tr⟩ := id c2
  obtain ⟨gn, nu, co9, ch, h_rp, h_ch⟩ := id c3
  obtain ⟨se, re, wr, rt, wt, rs, sz, riw, h_tb, h_se, h_wr, h_rt, h_wt, h_re, h_rs, hT⟩ := id c4
  obtain ⟨h_co, h_cop⟩ := id c5
  obtain ⟨⟨h_hi, h_hsu, hFc⟩, hcf, h_hco, hcc⟩ := id c6
  obtain ⟨kS, hkS, qs, ar9, afo, qra, qf, atk, qt9, ask, rA, rr, st9, h_su, h_sur, h_fo, h_tk, h_sk, ⟨p1, p2, p3, p4⟩, hrA, hRu0⟩ := id c7
  have hD := hI.1.1
  have hn9 := hD.n
  have hb9 := hI.2.2.2.1
  have hnx := c8.1
  have hkp := c8.2.1
  have hqs : qs < 0 ∨ 0 + 46 ≤ qs := by have := p1.1; unfold SRo at this; omega
  have he : ∀ x : Int, 1 ≤ x → x ≤ d 0 → 0 ≤ cl d x ∧ cl d x ≤ d 1 := fun x a1 a2 => hD.col a1 (by omega)
  exact (k_X10_extend l x y h_x0 h_su h_co h_cop h_tb h_re h_rs h_sr h_sc h_scp h_sb h_sbp h_op h_tr h_hi h_hsu h_hco hD hT ⟨rfl, rfl, rfl, rfl⟩ hqs hx9 hy9 hnx hkp hcc hFc hl9).wk (fun z u hU h => by
    obtain ⟨h1, h2, h3, h4, ⟨op2, tr2, P2, F2, t2, d2, k1, k2, k3, k4, k5⟩, hE⟩ := h
    rw [← SR_sr (by omega)] at h3 h4
    have hS : CS cy u xa := ⟨t2, d2, F2, P2, op2, tr2, k1, k2, k3, hE.at h_sb (by omega), hE.at h_sbp (by omega), k4, k5⟩
    refine ⟨h1, h2, h3, ?_⟩
    rcases h4 with ⟨a1, hE1⟩ | ⟨a1, g1, g2, hH⟩
    · have hE2 : Eqx ws0 u (fun j => 18 ≤ j ∧ j < 25) := hE1.wk (fun j hj => by omega)
      have hs2 : SX2 cy ws0 u b o K (fun j => 18 ≤ j ∧ j < 25) := SX2.lo (fun j hj => by omega) hI.2.2.2.2 hb9
      exact ⟨dep, d, hs, Or.inl ⟨a1, rfl, rfl, rfl⟩, ⟨asu, nx, hs9, hF, hP, Dt, Tt, c1.keep hE2 (fun j hj => by omega), hS, c3.keep hE2 (fun j _ hj => by omega), c4.keep hE2 (fun j _ hj => by omega), c5.keep hE2 (fun j _ hj => by omega), c6.keep hE2 (fun j _ hj => by omega), c7.keep hE2 hs2, c8.keep hE2 hs2, cD, fun k hk => Nat.lt_of_lt_of_le (cK k hk) hE2.1⟩, hI, hE2.wk (fun j hj => by omega)⟩
    · have hk := SR_keep hD (to := x) (most := y) (by omega)
      have hse : SE d (SR d x y).2.2 := se_SR hD (by omega)
      have hf : fx (SR d x y).2.2 = fx d ∨ True := Or.inr trivial
      have hO : CO2 cy u xa (SR d x y).2.2 := CO2.of hse (by rw [← fmk_congr (fun w w0 w1 => by rw [show fx (SR d x y).2.2 w = fx d w from hk.2.2 (70 + w) (by omega)])]; exact g1) g2
      have hw := CW.wr c1 c4 c6 c7 c8 cD cK hI hE (fun j hj => by omega) hS (c3.keep hE (fun j _ hj => by omega)) hO hH hse
      exact ⟨rn dep, _, _, Or.inr ⟨a1, rfl, rfl, rfl⟩, hw.1, hI.sub hk.1, hw.2⟩)
set_option maxHeartbeats 1000000 in
theorem c_repair (l : Launch) {G : va_G} {cy : Nat → ClassId} {ws0 : va_W} {b o : Nat} {xa : Nat → Nat} {K : Nat → Prop} {bl erp : Int} {bm d : Int → Int} {T : List Int} {dep : Int} {hs : Nat → Int → Int} (y : Int) (hC : CW cy ws0 b o xa K bl erp bm d T dep hs) (hI : CI b o K bl bm d T) (hy9 : -2147483648 ≤ y ∧ y ≤ 2147483647) (hl9 : l.stackTraces = false) : TIk l yX10_repair wsX10_repair rm_X10_repair G cy [.ref (xa 0), .int (zI y)] ws0 (fun E9 => E9 = "java/lang/IllegalArgumentException" ∧ ¬ (1 ≤ y ∧ y ≤ 10)) (fun z u => (1 ≤ y ∧ y ≤ 10) ∧ z = (rpr d T y.toNat d).1 ∧ CW cy u b o xa K bl erp bm (rpr d T y.toNat d).2 T (rn dep) (rem dep hs d) ∧ CI b o K bl bm (rpr d T y.toNat d).2 T ∧ Eqx ws0 u (fun j => j < b ∨ o < j)) := by
  have hC0 := hC
  obtain ⟨asu, nx, hs9, hF, hP, Dt, Tt, c1, c2, c3, c4, c5, c6, c7, c8, cD, cK⟩ := hC
  obtain ⟨h_x0, h_in, ec9, ep9, nm9, cs9, rt9, n9, k0, s0, v0, l0, e0, aol, F9, P9, rlf, pgf, h_rd, h_rc, h_rcp, h_tk7, h_rl, h_pg⟩ := id c1
  obtain ⟨tot, dee, F0, P0, op, tr, h_sr, h_sc, h_scp, h_sb, h_sbp, h_op, h_tr⟩ := id c2
  obtain ⟨gn, nu, co9, ch, h_rp, h_ch⟩ := id c3
  obtain ⟨se, re, wr, rt, wt, rs, sz, riw, h_tb, h_se, h_wr, h_rt, h_wt, h_re, h_rs, hT⟩ := id c4
  obtain ⟨h_co, h_cop⟩ := id c5
  obtain ⟨⟨h_hi, h_hsu, hFc⟩, hcf, h_hco, hcc⟩ := id c6
  obtain ⟨kS, hkS, qs, ar9, afo, qra, qf, atk, qt9, ask, rA, rr, st9, h_su, h_sur, h_fo, h_tk, h_sk, ⟨p1, p2, p3, p4⟩, hrA, hRu0⟩ := id c7
  have hD := hI.1.1
  have hn9 := hD.n
  have hb9 := hI.2.2.2.1
  have hnx := c8.1
  have hkp := c8.2.1
  have hqs : qs < 0 ∨ 0 + 46 ≤ qs := by have := p1.1; unfold SRo at this; omega
  have he : ∀ x : Int, 1 ≤ x → x ≤ d 0 → 0 ≤ cl d x ∧ cl d x ≤ d 1 := fun x a1 a2 => hD.col a1 (by omega)
  exact (k_X10_repair l y h_x0 h_su h_co h_cop h_tb h_se h_wr h_wt h_rp h_ch h_hi h_hsu h_hco hD hT ⟨rfl, rfl, rfl, rfl⟩ hqs hy9 hnx hkp hcc hFc hl9).wk (fun z u hU h => by
    obtain ⟨h1, h2, k1, k2, ⟨gn2, nu2, co2, ch2, k3, k4⟩, hH, hE⟩ := h
    have hse : SE d ((rpr d T y.toNat d).2) := se_rpr hD _
    have hO : CO2 cy u xa ((rpr d T y.toNat d).2) := CO2.of hse k1 k2
    have hS : CS cy u xa := c2.keep hE (fun j _ hj => by omega)
    have hR : CR cy u xa := ⟨gn2, nu2, co2, ch2, k3, k4⟩
    have hw := CW.wr c1 c4 c6 c7 c8 cD cK hI hE (fun j hj => by omega) hS hR hO hH hse
    have hD2 : DW ((rpr d T y.toNat d).2) T := (rpr_keep _ d hD).1
    exact ⟨h1, h2, hw.1, hI.sub hD2, hw.2⟩)
