/-! the law's own rows and state -/
def SVL (xs : Nat → Int32) (j : Int) : Int := (xs j.toNat).toInt
theorem SVL_rng (xs : Nat → Int32) (j : Int) : -2147483648 ≤ SVL xs j ∧ SVL xs j ≤ 2147483647 := by
  have h1 := Int32.le_toInt (xs j.toNat)
  have h2 := Int32.toInt_lt (xs j.toNat)
  unfold SVL
  omega
theorem zI_SVL (xs : Nat → Int32) (j : Int) : zI (SVL xs j) = xs j.toNat := Int32.ofInt_toInt _
section LR
variable {p : Program} {l : Launch} {e : Env} {R : Room} {s : State} {m : MethodId} {args : Array Value} {below : List Frame} {meth : Method} {c : Code} {H : Heap} {locs : List Loc} {cells slots : Nat} {Q : State → Prop}
variable {cc : ByteArray} {nL pc : Nat} {ret : Option FieldType} {ls : Array Slot} {rest : List Value} {wds : List Cond} {own : String} {G : va_G} {cy : Nat → ClassId} {ws : va_W}
theorem r_sld (E : Ev p s m meth c args cc nL ret wds own G cy) (h : Hp G ws (fun q => s.heap.size ≤ q) s.heap H locs) {b0 L : Nat} {xs : Nat → Int32} (hXs : va_X b0 L xs s s.heap) (hbl : b0 < s.heap.size) {i : Int} (hi : 0 ≤ i ∧ i < (L : Int)) (hL : L ≤ 3072) (hdg : decode cc pc = .ok (.iaload, 1)) (k : W p l e R s m args below meth c H locs cells slots Q (F0 m (pc + 1) ls (.int (zI (SVL xs i)) :: rest))) : W p l e R s m args below meth c H locs cells slots Q (F0 m pc ls (.int (zI i) :: .ref b0 :: rest)) := va_sld E.1 E.2.1 hXs hbl (Nat.not_le.mpr hbl) h.2.2.1 (zI_in hi (by omega)) hdg (by
  rw [zI_clamp (by omega), ← zI_SVL xs i]
  exact k)
theorem r_slen (E : Ev p s m meth c args cc nL ret wds own G cy) (h : Hp G ws (fun q => s.heap.size ≤ q) s.heap H locs) {b0 L : Nat} {xs : Nat → Int32} (hXs : va_X b0 L xs s s.heap) (hbl : b0 < s.heap.size) (hdg : decode cc pc = .ok (.arraylength, 1)) (k : W p l e R s m args below meth c H locs cells slots Q (F0 m (pc + 1) ls (.int (zI (L : Int)) :: rest))) : W p l e R s m args below meth c H locs cells slots Q (F0 m pc ls (.ref b0 :: rest)) := va_slen E.1 E.2.1 hXs hbl (Nat.not_le.mpr hbl) h.2.2.1 hdg (by
  rw [show Int32.ofNat L = zI (L : Int) from (Int32.ofInt_eq_ofNat).symm]
  exact k)
theorem r_icmp_same (E : Ev p s m meth c args cc nL ret wds own G cy) {a : Int} {off : Int} (tgt : Nat) (hdg : decode cc pc = .ok (.if_icmp .eq off, 3)) (ht : (pc : Int) + off = (tgt : Int)) (k : W p l e R s m args below meth c H locs cells slots Q (F0 m tgt ls rest)) : W p l e R s m args below meth c H locs cells slots Q (F0 m pc ls (.int (zI a) :: .int (zI a) :: rest)) := lv_icmp_eq (tgt := tgt) E.1 E.2.1 hdg ht (fun _ => k) (fun c9 => absurd rfl c9)
theorem r_lcmp_same (E : Ev p s m meth c args cc nL ret wds own G cy) {a : Int64} (hdg : decode cc pc = .ok (.lcmp, 1)) (k : W p l e R s m args below meth c H locs cells slots Q (F0 m (pc + 1) ls (.int (zI 0) :: rest))) : W p l e R s m args below meth c H locs cells slots Q (F0 m pc ls (.long a :: .long a :: rest)) := r_lcmpX E hdg (fun z _ hz => by
  obtain rfl : z = 0 := hz.mpr rfl
  exact k)
end LR
theorem CW.obj {cy : Nat → ClassId} {u : va_W} {b o : Nat} {xa : Nat → Nat} {K : Nat → Prop} {bl erp : Int} {bm d : Int → Int} {T : List Int} {dep : Int} {hs : Nat → Int → Int} (h : CW cy u b o xa K bl erp bm d T dep hs) : ∃ fs, u[0]? = some (xa 0, .inr (10, fs)) := by
  obtain ⟨asu, nx, hs9, hF, hP, Dt, Tt, c1, _⟩ := h
  exact ⟨_, c1.1⟩
theorem CW.dep {cy : Nat → ClassId} {u : va_W} {b o : Nat} {xa : Nat → Nat} {K : Nat → Prop} {bl erp : Int} {bm d : Int → Int} {T : List Int} {dep : Int} {hs : Nat → Int → Int} (h : CW cy u b o xa K bl erp bm d T dep hs) : 0 ≤ dep ∧ dep ≤ 8 := by
  obtain ⟨asu, nx, hs9, hF, hP, Dt, Tt, c1, c2, c3, c4, c5, c6, c7, c8, _⟩ := h
  exact c8.2.1
theorem CW.top {cy : Nat → ClassId} {u : va_W} {b o : Nat} {xa : Nat → Nat} {K : Nat → Prop} {bl erp : Int} {bm d : Int → Int} {T : List Int} {dep : Int} {hs : Nat → Int → Int} (h : CW cy u b o xa K bl erp bm d T dep hs) : ∃ T2, 0 < dep → DW (hs (dep - 1).toNat) T2 := by
  obtain ⟨asu, nx, hs9, hF, hP, Dt, Tt, c1, c2, c3, c4, c5, c6, c7, c8, _⟩ := h
  by_cases h0 : 0 < dep
  · obtain ⟨asi, Ti, _, _, _, e, _⟩ := c8.2.2 (dep - 1).toNat (by have := c8.2.1; omega)
    exact ⟨Ti, fun _ => e.1⟩
  · exact ⟨T, fun h => absurd h h0⟩
theorem MW.obj {cy : Nat → ClassId} {u : va_W} {b : Nat} {ad ar : Nat → Nat} {aM : Nat} {t bl erp dep : Int} {bm d : Int → Int} {hs : Nat → Int → Int} (h : MW cy u b ad ar aM t bl erp dep bm d hs) : ∃ I, u[b]? = some (aM, mO I ad) := by
  obtain ⟨I, dr, ke, me, le, ru, so, fo, wn, op, st, hi, h1, _⟩ := h
  exact ⟨I, h1⟩
/-- the two sides agree -/
def JW (cy : Nat → ClassId) (xa ad ar : Nat → Nat) (aM ao b o : Nat) (ws : va_W) : Prop := ∃ (K : Nat → Prop) (t bl erp dep : Int) (bm d : Int → Int) (T : List Int) (hs : Nat → Int → Int) (g : Int → Int64), CW cy ws b o xa K bl erp bm d T dep hs ∧ CI b o K bl bm d T ∧ MW cy ws b ad ar aM t bl erp dep bm d hs ∧ ws[o]? = some (ao, aL cy 1 g)
