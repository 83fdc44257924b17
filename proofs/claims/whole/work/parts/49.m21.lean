theorem hd_X11_readRule : yX11_readRule.cls = RX11 ∧ yX11_readRule.cls ≠ "java/lang/invoke/MethodHandle" ∧ yX11_readRule.cls ≠ "java/lang/invoke/VarHandle" ∧ (parseMethodDescriptor yX11_readRule.desc).map (fun d => d.parameters.length) = some 2 := by decide +kernel
theorem fl_X11_readRule_20 : Cond.fieldLink RX11 20 (TX11 9).1 (TX11 9).2.1 (TX11 9).2.2.1 ∈ wsX11_readRule := List.mem_of_getElem? (i := 1) rfl
theorem inn_X11_readRule_11 : ∀ w ∈ wsX110, w ∈ wsX11_readRule := fun _ h => List.mem_cons_of_mem _ (List.mem_append_right _ h)
theorem fl_X11_readRule_66 : Cond.fieldLink RX11 66 (TX11 4).1 (TX11 4).2.1 (TX11 4).2.2.1 ∈ wsX11_readRule := List.mem_of_getElem? (i := 2) rfl
abbrev rm_X11_readRule : Room := { frames := 5, cells := 0, slots := 0, locals := 107 }
set_option maxHeartbeats 4000000 in
set_option maxRecDepth 100000 in
theorem k_X11_readRule (l : Launch) {G : va_G} {cy : Nat → ClassId} {ws0 : va_W} {b aM : Nat} {I : Nat → Int} {ad : Nat → Nat} {bu : Int → Int} {dr : Int → Int} {L : Int} {S : PSt} (st9 q9 : Int) (h_mo : ws0[b]? = some (aM, mO I ad)) (h_bu : ws0[b + 1]? = some (ad 1, aI cy 600 bu)) (h_dr : ws0[b + 3]? = some (ad 9, aI cy 1111 dr)) (htx : TXok bu) (hR : PR bu L I dr S) (h0 : S.1 = 0) (hq : q9 = 0 ∨ q9 = 1) (h2 : 0 ≤ S.2.2.2 2 ∧ S.2.2.2 2 ≤ 4) : MVs l yX11_readRule wsX11_readRule rm_X11_readRule G cy [.ref aM, .int (zI st9), .int (zI q9)] ws0 (PQ cy ws0 b aM I ad bu L (pRule bu L st9 q9 S)) := by
  refine MVs.of (own := RX11) (cc := cX11_readRule) (nL := 6) (ret := none) (by decide) rfl rfl (Nat.le_of_ble_eq_true rfl) ?_
  intro p e s m below meth c A ls hX E h hl
  have hl : lv_has ls 6 [(0, .ref aM), (1, .int (zI st9)), (2, .int (zI q9))] := hl
  have hE : Eqx ws0 ws0 (fun j => j = b ∨ j = b + 3) := Eqx.rf
  have gk : ∀ k : Nat, k ≠ 4 → k ≠ 5 → k ≠ 6 → I k = I k := fun _ _ _ _ => rfl
  have hd2 : dr 2 = S.2.2.2 2 := by rw [hR.g h0]
  refine r_aload_n E 0 hl rfl dX11_readRule_0 ?_
  refine r_get (v := .ref (ad 9)) E h h_mo rfl inn_X11_readRule_11 9 (by decide) fl_X11_readRule_20 rfl dX11_readRule_1 ?_
  refine r_iconst E dX11_readRule_4 ?_
  refine r_iald E h h_dr (by omega) (by decide) dX11_readRule_5 ?_
  refine r_iconst E dX11_readRule_6 ?_
  refine r_icmp_ne E 17 dX11_readRule_7 (by decide) (by omega) (fun c_7 => ?_) (fun c_7 => ?_)
  · skip
    have hI0 : I 5 = 0 := by have := hR.2.2.2.1.1; omega
    refine r_aload_n E 0 hl rfl dX11_readRule_17 ?_
    refine r_get (v := .ref (ad 9)) E h h_mo rfl inn_X11_readRule_11 9 (by decide) fl_X11_readRule_20 rfl dX11_readRule_18 ?_
    refine r_iconst E dX11_readRule_21 ?_
    refine r_iald E h h_dr (by omega) (by decide) dX11_readRule_22 ?_
    refine r_iconst E dX11_readRule_23 ?_
    refine r_callSI E h (As := [.int (zI (dr 2)), .int (zI 3)]) (rest := []) (k_X11_min l (dr 2) 3 (by omega)) gX11_readRule_X11_min rfl hd_X11_min (by decide) ⟨by decide, by decide⟩ hl.1 rfl (Nat.le_of_ble_eq_true rfl) dX11_readRule_24 rfl (fun z_24 ws H locs hp h => ?_)
    obtain ⟨e_z_24, rfl⟩ := hp
    refine r_callSI E h (As := [.int (zI z_24)]) (rest := []) (k_X11_rule l z_24) gX11_readRule_X11_rule rfl hd_X11_rule (by decide) ⟨by decide, by decide⟩ hl.1 rfl (Nat.le_of_ble_eq_true rfl) dX11_readRule_27 rfl (fun z_27 ws H locs hp h => ?_)
    obtain ⟨rfl, rfl⟩ := hp
    refine r_istore_n (lv' := [(3, .int (zI (5 + 6 * z_24))), (0, .ref aM), (1, .int (zI st9)), (2, .int (zI q9))]) E hl dX11_readRule_30 rfl (by decide) rfl (fun ls hl => ?_)
    refine r_aload_n E 1 hl rfl dX11_readRule_31 ?_
    refine r_callVI E h (As := []) (rest := []) (k_X11_isGood l h_mo hR.2.2.1) h_mo rfl gX11_readRule_X11_isGood rfl hd_X11_isGood (by decide) ⟨by decide, by decide⟩ hl.1 rfl (Nat.le_of_ble_eq_true rfl) dX11_readRule_32 rfl (fun z_32 ws H locs hp h => ?_)
    obtain ⟨e_z_32, rfl⟩ := hp
    refine r_if_ne E 39 dX11_readRule_35 (by decide) (by omega) (fun c_35 => ?_) (fun c_35 => ?_)
    · skip
      have hz24 : z_24 = S.2.2.2 2 := by omega
      refine r_iload_n E 3 hl rfl dX11_readRule_39 ?_
      refine r_if_eq E 169 dX11_readRule_40 (by decide) (by omega) (fun c_40 => ?_) (fun c_40 => ?_)
      · skip
        refine r_aload_n E 1 hl rfl dX11_readRule_169 ?_
        refine r_get (v := .ref (ad 9)) E h h_mo rfl inn_X11_readRule_11 9 (by decide) fl_X11_readRule_20 rfl dX11_readRule_170 ?_
        refine r_iload_n E 0 hl rfl dX11_readRule_173 ?_
        refine r_aload_n E 1 hl rfl dX11_readRule_174 ?_
        refine r_iconst E dX11_readRule_175 ?_
        refine r_bipush E dX11_readRule_176 (by decide) ?_
        refine r_callVI E h (As := [.int (zI 3), .int (zI 6)]) (rest := [.int (zI (5 + 6 * z_24)), .ref (ad 9)]) (k_X11_number l 3 6 h_mo h_bu htx hR.hL hR.hp hR.2.2.1 (by omega)) h_mo rfl gX11_readRule_X11_number rfl hd_X11_number (by decide) ⟨by decide, by decide⟩ hl.1 rfl (Nat.le_of_ble_eq_true rfl) dX11_readRule_178 rfl (fun z_178 ws H locs hp h => ?_)
        obtain ⟨I_178, h_mo, ⟨e_178, g_178⟩, hf⟩ := hp
        have h_bu := hf.at h_bu (by first | omega | (dsimp only <;> omega))
        have h_dr := hf.at h_dr (by first | omega | (dsimp only <;> omega))
        have hE := hE.tr (hf.wk (fun j hj => by first | omega | (dsimp only at hj ⊢ <;> omega)))
        obtain ⟨hR, hv_178⟩ := hR.num e_178 g_178
        have gk : ∀ k : Nat, k ≠ 4 → k ≠ 5 → k ≠ 6 → I_178 k = I k := fun k q4 q5 q6 => (g_178 k q4 q5 q6).trans (gk k q4 q5 q6)
        refine r_iast E h h_dr (by omega) (by decide) dX11_readRule_181 (fun ws H locs h hu => ?_)
        have h_mo := hu.keep h_mo (by omega)
        have h_bu := hu.keep h_bu (by omega)
        have h_dr : ws[b + 3]? = some (ad 9, aI cy 1111 (uZ dr (5 + 6 * z_24) z_178)) := hu.1
        have hE := hE.tr (hu.eqx (by first | omega | (dsimp only <;> omega)))
        have hR : PR bu L I_178 (uZ dr (5 + 6 * z_24) z_178) (pnumA bu L (5 + 6 * z_24) 3 6 S) := hR.set hv_178
        refine r_aload_n E 1 hl rfl dX11_readRule_182 ?_
        refine r_get (v := .ref (ad 9)) E h h_mo rfl inn_X11_readRule_11 9 (by decide) fl_X11_readRule_20 rfl dX11_readRule_183 ?_
        refine r_iconst E dX11_readRule_186 ?_
        refine r_dup2 E dX11_readRule_187 rfl rfl ?_
        refine r_iald E h h_dr (by omega) (by decide) dX11_readRule_188 ?_
        refine r_iconst E dX11_readRule_189 ?_
        refine r_iadd E dX11_readRule_190 ?_
        refine r_iast E h h_dr (by omega) (by decide) dX11_readRule_191 (fun ws H locs h hu => ?_)
        have h_mo := hu.keep h_mo (by omega)
        have h_bu := hu.keep h_bu (by omega)
        have h_dr : ws[b + 3]? = some (ad 9, aI cy 1111 (uZ (uZ dr (5 + 6 * z_24) z_178) 2 (((uZ dr (5 + 6 * z_24) z_178) 2) + 1))) := hu.1
        have hE := hE.tr (hu.eqx (by first | omega | (dsimp only <;> omega)))
        have hR : PR bu L I_178 (uZ (uZ dr (5 + 6 * z_24) z_178) 2 (((uZ dr (5 + 6 * z_24) z_178) 2) + 1)) (pinc (pnumA bu L (5 + 6 * z_24) 3 6 S)) := hR.set (fun hh => by rw [hR.g hh])
        exact r_vret E h ⟨_, _, h_mo, h_dr, ⟨by
  rw [pRule_p h0 (by omega) (by omega), ← hz24]
  exact hR, gk⟩, hE⟩ dX11_readRule_192
      · skip
        refine r_iconst E dX11_readRule_43 ?_
        refine r_istore (lv' := [(4, .int (zI 0)), (3, .int (zI (5 + 6 * z_24))), (0, .ref aM), (1, .int (zI st9)), (2, .int (zI q9))]) E hl dX11_readRule_44 (by decide) rfl (fun ls hl => ?_)
        refine r_loop (fun n H locs ls => ∃ (ws : va_W) (k : Int) (I3 : Nat → Int) (dr3 : Int → Int), n = (3 - k).toNat ∧ (0 ≤ k ∧ k ≤ 3) ∧ (PR bu L I3 dr3 (pE bu L (5 + 6 * z_24) k.toNat S)) ∧ (∀ k : Nat, k ≠ 4 → k ≠ 5 → k ≠ 6 → I3 k = I k) ∧ Hp G ws A s.heap H locs ∧ (ws[b]? = some (aM, mO I3 ad)) ∧ (ws[b + 1]? = some (ad 1, aI cy 600 bu)) ∧ (ws[b + 3]? = some (ad 9, aI cy 1111 dr3)) ∧ Eqx ws0 ws (fun j => j = b ∨ j = b + 3) ∧ lv_has ls 6 [(0, .ref aM), (1, .int (zI st9)), (2, .int (zI q9)), (3, .int (zI (5 + 6 * z_24))), (4, .int (zI k))]) _ ⟨ws0, 0, I, dr, rfl, (by omega), hR, gk, h, h_mo, h_bu, h_dr, hE, lv_sub hl [2, 3, 4, 1, 0] rfl⟩ ?_
        rintro n H locs ls ⟨ws, k, I3, dr3, hn, i1, hR, gk, h, h_mo, h_bu, h_dr, hE, hl⟩ ih_46
        refine r_iload E 4 hl rfl dX11_readRule_46 ?_
        refine r_iconst E dX11_readRule_48 ?_
        refine r_icmp_ge E 76 dX11_readRule_49 (by decide) (by omega) (fun c_49 => ?_) (fun c_49 => ?_)
        · skip
          obtain rfl : k = 3 := by omega
          have hR : PR bu L I3 dr3 (pE bu L (5 + 6 * z_24) 3 S) := hR
          refine r_aload_n E 0 hl rfl dX11_readRule_76 ?_
          refine r_callVI E h (As := []) (rest := []) (k_X11_isGood l h_mo hR.2.2.1) h_mo rfl gX11_readRule_X11_isGood rfl hd_X11_isGood (by decide) ⟨by decide, by decide⟩ hl.1 rfl (Nat.le_of_ble_eq_true rfl) dX11_readRule_77 rfl (fun z_77 ws H locs hp h => ?_)
          obtain ⟨e_z_77, rfl⟩ := hp
          refine r_if_eq E 96 dX11_readRule_80 (by decide) (by omega) (fun c_80 => ?_) (fun c_80 => ?_)
          · skip
            refine r_iconst E dX11_readRule_96 ?_
            have hmb : ∀ v : Int, pminB bu L (pE bu L (5 + 6 * z_24) 3 S) v = v := fun v => if_neg (fun q => absurd q.1 (by have := hR.2.2.2.1.1; omega))
            have hR : PR bu L I3 dr3 (pminS bu L (pE bu L (5 + 6 * z_24) 3 S)) := by
              rw [show pminS bu L (pE bu L (5 + 6 * z_24) 3 S) = pE bu L (5 + 6 * z_24) 3 S from if_neg (fun q => absurd q.1 (by have := hR.2.2.2.1.1; omega))]
              exact hR
            refine r_istore (lv' := [(4, .int (zI 0)), (0, .ref aM), (1, .int (zI st9)), (2, .int (zI q9)), (3, .int (zI (5 + 6 * z_24)))]) E hl dX11_readRule_97 (by decide) rfl (fun ls hl => ?_)
            refine r_iload E 0 hl rfl dX11_readRule_99 ?_
            refine r_if_eq E 114 dX11_readRule_101 (by decide) (by omega) (fun c_101 => ?_) (fun c_101 => ?_)
            · skip
              skip
              refine r_aload_n E 1 hl rfl dX11_readRule_114 ?_
              refine r_iconst E dX11_readRule_115 ?_
              refine r_bipush E dX11_readRule_116 (by decide) ?_
              refine r_callVI E h (As := [.int (zI 0), .int (zI 99)]) (rest := []) (k_X11_number l 0 99 h_mo h_bu htx hR.hL hR.hp hR.2.2.1 (by omega)) h_mo rfl gX11_readRule_X11_number rfl hd_X11_number (by decide) ⟨by decide, by decide⟩ hl.1 rfl (Nat.le_of_ble_eq_true rfl) dX11_readRule_118 rfl (fun z_118 ws H locs hp h => ?_)
              obtain ⟨I_118, h_mo, ⟨e_118, g_118⟩, hf⟩ := hp
              have h_bu := hf.at h_bu (by first | omega | (dsimp only <;> omega))
              have h_dr := hf.at h_dr (by first | omega | (dsimp only <;> omega))
              have hE := hE.tr (hf.wk (fun j hj => by first | omega | (dsimp only at hj ⊢ <;> omega)))
              obtain ⟨hR, hv_118⟩ := hR.num e_118 g_118
              have gk : ∀ k : Nat, k ≠ 4 → k ≠ 5 → k ≠ 6 → I_118 k = I k := fun k q4 q5 q6 => (g_118 k q4 q5 q6).trans (gk k q4 q5 q6)
              refine r_istore (lv' := [(5, .int (zI z_118)), (4, .int (zI 0)), (0, .ref aM), (1, .int (zI st9)), (2, .int (zI q9)), (3, .int (zI (5 + 6 * z_24)))]) E hl dX11_readRule_121 (by decide) rfl (fun ls hl => ?_)
              refine r_aload_n E 2 hl rfl dX11_readRule_123 ?_
              refine r_get (v := .ref (ad 9)) E h h_mo rfl inn_X11_readRule_11 9 (by decide) fl_X11_readRule_20 rfl dX11_readRule_124 ?_
              refine r_iload_n E 5 hl rfl dX11_readRule_127 ?_
              refine r_iconst E dX11_readRule_128 ?_
              refine r_iadd E dX11_readRule_129 ?_
              refine r_iload E 1 hl rfl dX11_readRule_130 ?_
              refine r_if_eq E 141 dX11_readRule_132 (by decide) (by omega) (fun c_132 => ?_) (fun c_132 => ?_)
              · skip
                refine r_iload E 0 hl rfl dX11_readRule_141 ?_
                refine r_iast E h h_dr (by omega) (by decide) dX11_readRule_143 (fun ws H locs h hu => ?_)
                have h_mo := hu.keep h_mo (by omega)
                have h_bu := hu.keep h_bu (by omega)
                have h_dr : ws[b + 3]? = some (ad 9, aI cy 1111 (uZ dr3 ((5 + 6 * z_24) + 4) z_118)) := hu.1
                have hE := hE.tr (hu.eqx (by first | omega | (dsimp only <;> omega)))
                have hR : PR bu L I_118 (uZ dr3 ((5 + 6 * z_24) + 4) z_118) (pEqB bu L (5 + 6 * z_24) (pE bu L (5 + 6 * z_24) 3 S)) := hR.set (fun hh => by rw [hmb, hv_118 hh])
                refine r_aload_n E 2 hl rfl dX11_readRule_144 ?_
                refine r_get (v := .ref (ad 9)) E h h_mo rfl inn_X11_readRule_11 9 (by decide) fl_X11_readRule_20 rfl dX11_readRule_145 ?_
                refine r_iload_n E 5 hl rfl dX11_readRule_148 ?_
                refine r_iconst E dX11_readRule_149 ?_
                refine r_iadd E dX11_readRule_150 ?_
                refine r_aload_n E 2 hl rfl dX11_readRule_151 ?_
                refine r_ldcS E hX (i := 3) (tx := "distinct") (by decide +kernel) dX11_readRule_152 ?_
                refine r_callVsI E hX h (As := [.ref (cy (100 + 3))]) (rest := [.int (zI ((5 + 6 * z_24) + 5)), .ref (ad 9)]) (k_X11_takeWord l 3 h_mo h_bu htx hR.hL hR.hp hR.2.2.1 (by decide)) h_mo rfl gX11_readRule_X11_takeWord rfl hd_X11_takeWord (by decide) ⟨by decide, by decide⟩ hl.1 rfl (Nat.le_of_ble_eq_true rfl) dX11_readRule_154 rfl (fun z_154 ws H locs hp h => ?_)
                obtain ⟨I_154, h_mo, ⟨e_154, g_154⟩, hf⟩ := hp
                have h_bu := hf.at h_bu (by first | omega | (dsimp only <;> omega))
                have h_dr := hf.at h_dr (by first | omega | (dsimp only <;> omega))
                have hE := hE.tr (hf.wk (fun j hj => by first | omega | (dsimp only at hj ⊢ <;> omega)))
                obtain ⟨hz9, hR⟩ := hR.wrd (by decide) e_154 g_154
                have gk : ∀ k : Nat, k ≠ 4 → k ≠ 5 → k ≠ 6 → I_154 k = I k := fun k q4 q5 q6 => (g_154 k q4).trans (gk k q4 q5 q6)
                have hpb := pwb_rng (t := bu) (L := L) (i := 3) (S := pEqB bu L (5 + 6 * z_24) (pE bu L (5 + 6 * z_24) 3 S))
                refine r_cut (α := Int) (fun x_157 H locs ls => (x_157 = 0 ∧ z_154 = 0 ∨ x_157 = 1 ∧ ¬ z_154 = 0) ∧ Hp G ws A s.heap H locs ∧ lv_has ls 6 [(5, .int (zI z_118)), (4, .int (zI 0)), (0, .ref aM), (1, .int (zI st9)), (2, .int (zI q9)), (3, .int (zI (5 + 6 * z_24)))]) 165 (fun x_157 => [.int (zI x_157), .int (zI ((5 + 6 * z_24) + 5)), .ref (ad 9)]) ?_ ?_
                · rintro x_157 H locs ls ⟨b_157, h, hl⟩
                  refine r_iast E h h_dr (by omega) (by decide) dX11_readRule_165 (fun ws H locs h hu => ?_)
                  have h_mo := hu.keep h_mo (by omega)
                  have h_bu := hu.keep h_bu (by omega)
                  have h_dr : ws[b + 3]? = some (ad 9, aI cy 1111 (uZ (uZ dr3 ((5 + 6 * z_24) + 4) z_118) ((5 + 6 * z_24) + 5) x_157)) := hu.1
                  have hE := hE.tr (hu.eqx (by first | omega | (dsimp only <;> omega)))
                  have hR : PR bu L I_154 (uZ (uZ dr3 ((5 + 6 * z_24) + 4) z_118) ((5 + 6 * z_24) + 5) x_157) (pEqC bu L (5 + 6 * z_24) (pEqB bu L (5 + 6 * z_24) (pE bu L (5 + 6 * z_24) 3 S))) := hR.set (fun _ => by omega)
                  refine r_goto E 182 dX11_readRule_166 (by decide) ?_
                  skip
                  refine r_aload_n E 2 hl rfl dX11_readRule_182 ?_
                  refine r_get (v := .ref (ad 9)) E h h_mo rfl inn_X11_readRule_11 9 (by decide) fl_X11_readRule_20 rfl dX11_readRule_183 ?_
                  refine r_iconst E dX11_readRule_186 ?_
                  refine r_dup2 E dX11_readRule_187 rfl rfl ?_
                  refine r_iald E h h_dr (by omega) (by decide) dX11_readRule_188 ?_
                  refine r_iconst E dX11_readRule_189 ?_
                  refine r_iadd E dX11_readRule_190 ?_
                  refine r_iast E h h_dr (by omega) (by decide) dX11_readRule_191 (fun ws H locs h hu => ?_)
                  have h_mo := hu.keep h_mo (by omega)
                  have h_bu := hu.keep h_bu (by omega)
                  have h_dr : ws[b + 3]? = some (ad 9, aI cy 1111 (uZ (uZ (uZ dr3 ((5 + 6 * z_24) + 4) z_118) ((5 + 6 * z_24) + 5) x_157) 2 (((uZ (uZ dr3 ((5 + 6 * z_24) + 4) z_118) ((5 + 6 * z_24) + 5) x_157) 2) + 1))) := hu.1
                  have hE := hE.tr (hu.eqx (by first | omega | (dsimp only <;> omega)))
                  have hR : PR bu L I_154 (uZ (uZ (uZ dr3 ((5 + 6 * z_24) + 4) z_118) ((5 + 6 * z_24) + 5) x_157) 2 (((uZ (uZ dr3 ((5 + 6 * z_24) + 4) z_118) ((5 + 6 * z_24) + 5) x_157) 2) + 1)) (pinc (pEqC bu L (5 + 6 * z_24) (pEqB bu L (5 + 6 * z_24) (pE bu L (5 + 6 * z_24) 3 S)))) := hR.set (fun hh => by rw [hR.g hh])
                  exact r_vret E h ⟨_, _, h_mo, h_dr, ⟨by
  rw [pRule_e h0 (by omega) (by omega), ← hz24]
  exact hR, gk⟩, hE⟩ dX11_readRule_192
                · intro kb_157
                  refine r_if_eq E 164 dX11_readRule_157 (by decide) (by omega) (fun c_157 => ?_) (fun c_157 => ?_)
                  · refine r_iconst E dX11_readRule_164 ?_
                    exact kb_157 _ H locs ls ⟨Or.inl ⟨rfl, c_157⟩, h, hl⟩
                  · refine r_iconst E dX11_readRule_160 ?_
                    refine r_goto E 165 dX11_readRule_161 (by decide) ?_
                    exact kb_157 _ H locs ls ⟨Or.inr ⟨rfl, c_157⟩, h, hl⟩
              · skip
                exfalso; omega
            · skip
              exfalso; omega
          · skip
            refine r_aload_n E 0 hl rfl dX11_readRule_83 ?_
            refine r_callVI E h (As := []) (rest := []) (k_X11_next l h_mo h_bu htx hR.hL hR.hp) h_mo rfl gX11_readRule_X11_next rfl hd_X11_next (by decide) ⟨by decide, by decide⟩ hl.1 rfl (Nat.le_of_ble_eq_true rfl) dX11_readRule_84 rfl (fun z_84 ws H locs hp h => ?_)
            obtain ⟨e_84, I_84, h_mo, ⟨f_84, g_84⟩, hf⟩ := hp
            have h_bu := hf.at h_bu (by first | omega | (dsimp only <;> omega))
            have h_dr := hf.at h_dr (by first | omega | (dsimp only <;> omega))
            have hE := hE.tr (hf.wk (fun j hj => by first | omega | (dsimp only at hj ⊢ <;> omega)))
            have hA0 : (pE bu L (5 + 6 * z_24) 3 S).1 = 0 := by have := hR.2.2.2.1.1; omega
            have hbr := byA_rng htx (L := L) (p := (pE bu L (5 + 6 * z_24) 3 S).2.2.1)
            have b_84 : z_84 = byA bu L (pE bu L (5 + 6 * z_24) 3 S).2.2.1 := hR.by hA0 e_84
            have at4 : I_84 4 = (pE bu L (5 + 6 * z_24) 3 S).2.2.1 := hR.at4 hA0 f_84
            have hR : PR bu L I_84 dr3 (pE bu L (5 + 6 * z_24) 3 S) := hR.mv f_84 g_84
            have gk : ∀ k : Nat, k ≠ 4 → k ≠ 5 → k ≠ 6 → I_84 k = I k := fun k q4 q5 q6 => (g_84 k q4).trans (gk k q4 q5 q6)
            refine r_bipush E dX11_readRule_87 (by decide) ?_
            refine r_icmp_ne E 96 dX11_readRule_89 (by decide) (by omega) (fun c_89 => ?_) (fun c_89 => ?_)
            · skip
              refine r_iconst E dX11_readRule_96 ?_
              skip
              refine r_istore (lv' := [(4, .int (zI 0)), (0, .ref aM), (1, .int (zI st9)), (2, .int (zI q9)), (3, .int (zI (5 + 6 * z_24)))]) E hl dX11_readRule_97 (by decide) rfl (fun ls hl => ?_)
              refine r_iload E 0 hl rfl dX11_readRule_99 ?_
              refine r_if_eq E 114 dX11_readRule_101 (by decide) (by omega) (fun c_101 => ?_) (fun c_101 => ?_)
              · skip
                have hmb : ∀ v : Int, pminB bu L (pE bu L (5 + 6 * z_24) 3 S) v = v := fun v => if_neg (fun q => absurd q.2 (by omega))
                have hR : PR bu L I_84 dr3 (pminS bu L (pE bu L (5 + 6 * z_24) 3 S)) := by
                  rw [show pminS bu L (pE bu L (5 + 6 * z_24) 3 S) = pE bu L (5 + 6 * z_24) 3 S from if_neg (fun q => absurd q.2 (by omega))]
                  exact hR
                refine r_aload_n E 1 hl rfl dX11_readRule_114 ?_
                refine r_iconst E dX11_readRule_115 ?_
                refine r_bipush E dX11_readRule_116 (by decide) ?_
                refine r_callVI E h (As := [.int (zI 0), .int (zI 99)]) (rest := []) (k_X11_number l 0 99 h_mo h_bu htx hR.hL hR.hp hR.2.2.1 (by omega)) h_mo rfl gX11_readRule_X11_number rfl hd_X11_number (by decide) ⟨by decide, by decide⟩ hl.1 rfl (Nat.le_of_ble_eq_true rfl) dX11_readRule_118 rfl (fun z_118 ws H locs hp h => ?_)
                obtain ⟨I_118, h_mo, ⟨e_118, g_118⟩, hf⟩ := hp
                have h_bu := hf.at h_bu (by first | omega | (dsimp only <;> omega))
                have h_dr := hf.at h_dr (by first | omega | (dsimp only <;> omega))
                have hE := hE.tr (hf.wk (fun j hj => by first | omega | (dsimp only at hj ⊢ <;> omega)))
                obtain ⟨hR, hv_118⟩ := hR.num e_118 g_118
                have gk : ∀ k : Nat, k ≠ 4 → k ≠ 5 → k ≠ 6 → I_118 k = I k := fun k q4 q5 q6 => (g_118 k q4 q5 q6).trans (gk k q4 q5 q6)
                refine r_istore (lv' := [(5, .int (zI z_118)), (4, .int (zI 0)), (0, .ref aM), (1, .int (zI st9)), (2, .int (zI q9)), (3, .int (zI (5 + 6 * z_24)))]) E hl dX11_readRule_121 (by decide) rfl (fun ls hl => ?_)
                refine r_aload_n E 2 hl rfl dX11_readRule_123 ?_
                refine r_get (v := .ref (ad 9)) E h h_mo rfl inn_X11_readRule_11 9 (by decide) fl_X11_readRule_20 rfl dX11_readRule_124 ?_
                refine r_iload_n E 5 hl rfl dX11_readRule_127 ?_
                refine r_iconst E dX11_readRule_128 ?_
                refine r_iadd E dX11_readRule_129 ?_
                refine r_iload E 1 hl rfl dX11_readRule_130 ?_
                refine r_if_eq E 141 dX11_readRule_132 (by decide) (by omega) (fun c_132 => ?_) (fun c_132 => ?_)
                · skip
                  refine r_iload E 0 hl rfl dX11_readRule_141 ?_
                  refine r_iast E h h_dr (by omega) (by decide) dX11_readRule_143 (fun ws H locs h hu => ?_)
                  have h_mo := hu.keep h_mo (by omega)
                  have h_bu := hu.keep h_bu (by omega)
                  have h_dr : ws[b + 3]? = some (ad 9, aI cy 1111 (uZ dr3 ((5 + 6 * z_24) + 4) z_118)) := hu.1
                  have hE := hE.tr (hu.eqx (by first | omega | (dsimp only <;> omega)))
                  have hR : PR bu L I_118 (uZ dr3 ((5 + 6 * z_24) + 4) z_118) (pEqB bu L (5 + 6 * z_24) (pE bu L (5 + 6 * z_24) 3 S)) := hR.set (fun hh => by rw [hmb, hv_118 hh])
                  refine r_aload_n E 2 hl rfl dX11_readRule_144 ?_
                  refine r_get (v := .ref (ad 9)) E h h_mo rfl inn_X11_readRule_11 9 (by decide) fl_X11_readRule_20 rfl dX11_readRule_145 ?_
                  refine r_iload_n E 5 hl rfl dX11_readRule_148 ?_
                  refine r_iconst E dX11_readRule_149 ?_
                  refine r_iadd E dX11_readRule_150 ?_
                  refine r_aload_n E 2 hl rfl dX11_readRule_151 ?_
                  refine r_ldcS E hX (i := 3) (tx := "distinct") (by decide +kernel) dX11_readRule_152 ?_
                  refine r_callVsI E hX h (As := [.ref (cy (100 + 3))]) (rest := [.int (zI ((5 + 6 * z_24) + 5)), .ref (ad 9)]) (k_X11_takeWord l 3 h_mo h_bu htx hR.hL hR.hp hR.2.2.1 (by decide)) h_mo rfl gX11_readRule_X11_takeWord rfl hd_X11_takeWord (by decide) ⟨by decide, by decide⟩ hl.1 rfl (Nat.le_of_ble_eq_true rfl) dX11_readRule_154 rfl (fun z_154 ws H locs hp h => ?_)
                  obtain ⟨I_154, h_mo, ⟨e_154, g_154⟩, hf⟩ := hp
                  have h_bu := hf.at h_bu (by first | omega | (dsimp only <;> omega))
                  have h_dr := hf.at h_dr (by first | omega | (dsimp only <;> omega))
                  have hE := hE.tr (hf.wk (fun j hj => by first | omega | (dsimp only at hj ⊢ <;> omega)))
                  obtain ⟨hz9, hR⟩ := hR.wrd (by decide) e_154 g_154
                  have gk : ∀ k : Nat, k ≠ 4 → k ≠ 5 → k ≠ 6 → I_154 k = I k := fun k q4 q5 q6 => (g_154 k q4).trans (gk k q4 q5 q6)
                  have hpb := pwb_rng (t := bu) (L := L) (i := 3) (S := pEqB bu L (5 + 6 * z_24) (pE bu L (5 + 6 * z_24) 3 S))
                  refine r_cut (α := Int) (fun x_157 H locs ls => (x_157 = 0 ∧ z_154 = 0 ∨ x_157 = 1 ∧ ¬ z_154 = 0) ∧ Hp G ws A s.heap H locs ∧ lv_has ls 6 [(5, .int (zI z_118)), (4, .int (zI 0)), (0, .ref aM), (1, .int (zI st9)), (2, .int (zI q9)), (3, .int (zI (5 + 6 * z_24)))]) 165 (fun x_157 => [.int (zI x_157), .int (zI ((5 + 6 * z_24) + 5)), .ref (ad 9)]) ?_ ?_
                  · rintro x_157 H locs ls ⟨b_157, h, hl⟩
                    refine r_iast E h h_dr (by omega) (by decide) dX11_readRule_165 (fun ws H locs h hu => ?_)
                    have h_mo := hu.keep h_mo (by omega)
                    have h_bu := hu.keep h_bu (by omega)
                    have h_dr : ws[b + 3]? = some (ad 9, aI cy 1111 (uZ (uZ dr3 ((5 + 6 * z_24) + 4) z_118) ((5 + 6 * z_24) + 5) x_157)) := hu.1
                    have hE := hE.tr (hu.eqx (by first | omega | (dsimp only <;> omega)))
                    have hR : PR bu L I_154 (uZ (uZ dr3 ((5 + 6 * z_24) + 4) z_118) ((5 + 6 * z_24) + 5) x_157) (pEqC bu L (5 + 6 * z_24) (pEqB bu L (5 + 6 * z_24) (pE bu L (5 + 6 * z_24) 3 S))) := hR.set (fun _ => by omega)
                    refine r_goto E 182 dX11_readRule_166 (by decide) ?_
                    skip
                    refine r_aload_n E 2 hl rfl dX11_readRule_182 ?_
                    refine r_get (v := .ref (ad 9)) E h h_mo rfl inn_X11_readRule_11 9 (by decide) fl_X11_readRule_20 rfl dX11_readRule_183 ?_
                    refine r_iconst E dX11_readRule_186 ?_
                    refine r_dup2 E dX11_readRule_187 rfl rfl ?_
                    refine r_iald E h h_dr (by omega) (by decide) dX11_readRule_188 ?_
                    refine r_iconst E dX11_readRule_189 ?_
                    refine r_iadd E dX11_readRule_190 ?_
                    refine r_iast E h h_dr (by omega) (by decide) dX11_readRule_191 (fun ws H locs h hu => ?_)
                    have h_mo := hu.keep h_mo (by omega)
                    have h_bu := hu.keep h_bu (by omega)
                    have h_dr : ws[b + 3]? = some (ad 9, aI cy 1111 (uZ (uZ (uZ dr3 ((5 + 6 * z_24) + 4) z_118) ((5 + 6 * z_24) + 5) x_157) 2 (((uZ (uZ dr3 ((5 + 6 * z_24) + 4) z_118) ((5 + 6 * z_24) + 5) x_157) 2) + 1))) := hu.1
                    have hE := hE.tr (hu.eqx (by first | omega | (dsimp only <;> omega)))
                    have hR : PR bu L I_154 (uZ (uZ (uZ dr3 ((5 + 6 * z_24) + 4) z_118) ((5 + 6 * z_24) + 5) x_157) 2 (((uZ (uZ dr3 ((5 + 6 * z_24) + 4) z_118) ((5 + 6 * z_24) + 5) x_157) 2) + 1)) (pinc (pEqC bu L (5 + 6 * z_24) (pEqB bu L (5 + 6 * z_24) (pE bu L (5 + 6 * z_24) 3 S)))) := hR.set (fun hh => by rw [hR.g hh])
                    exact r_vret E h ⟨_, _, h_mo, h_dr, ⟨by
  rw [pRule_e h0 (by omega) (by omega), ← hz24]
  exact hR, gk⟩, hE⟩ dX11_readRule_192
                  · intro kb_157
                    refine r_if_eq E 164 dX11_readRule_157 (by decide) (by omega) (fun c_157 => ?_) (fun c_157 => ?_)
                    · refine r_iconst E dX11_readRule_164 ?_
                      exact kb_157 _ H locs ls ⟨Or.inl ⟨rfl, c_157⟩, h, hl⟩
                    · refine r_iconst E dX11_readRule_160 ?_
                      refine r_goto E 165 dX11_readRule_161 (by decide) ?_
                      exact kb_157 _ H locs ls ⟨Or.inr ⟨rfl, c_157⟩, h, hl⟩
                · skip
                  exfalso; omega
              · skip
                exfalso; omega
            · skip
              refine r_iconst E dX11_readRule_92 ?_
              refine r_goto E 97 dX11_readRule_93 (by decide) ?_
              skip
              refine r_istore (lv' := [(4, .int (zI 1)), (0, .ref aM), (1, .int (zI st9)), (2, .int (zI q9)), (3, .int (zI (5 + 6 * z_24)))]) E hl dX11_readRule_97 (by decide) rfl (fun ls hl => ?_)
              refine r_iload E 0 hl rfl dX11_readRule_99 ?_
              refine r_if_eq E 114 dX11_readRule_101 (by decide) (by omega) (fun c_101 => ?_) (fun c_101 => ?_)
              · skip
                exfalso; omega
              · skip
                refine r_aload_n E 1 hl rfl dX11_readRule_104 ?_
                refine r_dup E dX11_readRule_105 rfl ?_
                refine r_get (v := .int (zI (I_84 4))) E h h_mo rfl inn_X11_readRule_11 4 (by decide) fl_X11_readRule_66 rfl dX11_readRule_106 ?_
                refine r_iconst E dX11_readRule_109 ?_
                refine r_iadd E dX11_readRule_110 ?_
                refine r_put E h h_mo rfl inn_X11_readRule_11 4 (by decide) fl_X11_readRule_66 tyX11 tyX11_ok nmX11 rfl rfl rfl (Nat.le_of_ble_eq_true rfl) dX11_readRule_111 (fun ws H locs h hu => ?_)
                have h_mo : ws[b]? = some (aM, mO (va_up I_84 4 ((I_84 4) + 1)) ad) := hu.1
                have h_bu := hu.keep h_bu (by omega)
                have h_dr := hu.keep h_dr (by omega)
                have hE := hE.tr (hu.eqx (by first | omega | (dsimp only <;> omega)))
                have hmb : ∀ v : Int, pminB bu L (pE bu L (5 + 6 * z_24) 3 S) v = -v := fun v => if_pos ⟨hA0, by omega⟩
                have e4 : (va_up I_84 4 ((I_84 4) + 1)) 4 = I_84 4 + 1 := by simp [va_up]
                have ek : ∀ k : Nat, k ≠ 4 → (va_up I_84 4 ((I_84 4) + 1)) k = I_84 k := fun k k1 => by simp [va_up, k1]
                have hlt : (pE bu L (5 + 6 * z_24) 3 S).2.2.1 < L := byA_in (t := bu) (by omega)
                have hR : PR bu L (va_up I_84 4 ((I_84 4) + 1)) dr3 (pminS bu L (pE bu L (5 + 6 * z_24) 3 S)) := by
                  rw [show pminS bu L (pE bu L (5 + 6 * z_24) 3 S) = (0, (pE bu L (5 + 6 * z_24) 3 S).2.1, sk bu L ((pE bu L (5 + 6 * z_24) 3 S).2.2.1 + 1), (pE bu L (5 + 6 * z_24) 3 S).2.2.2) from if_pos ⟨hA0, by omega⟩]
                  exact hR.step hA0 at4 hlt (ek 3 (by decide)) e4 (ek 5 (by decide)) (ek 6 (by decide))
                have gk : ∀ k : Nat, k ≠ 4 → k ≠ 5 → k ≠ 6 → (va_up I_84 4 ((I_84 4) + 1)) k = I k := fun k q4 q5 q6 => (ek k q4).trans (gk k q4 q5 q6)
                refine r_aload_n E 1 hl rfl dX11_readRule_114 ?_
                refine r_iconst E dX11_readRule_115 ?_
                refine r_bipush E dX11_readRule_116 (by decide) ?_
                refine r_callVI E h (As := [.int (zI 0), .int (zI 99)]) (rest := []) (k_X11_number l 0 99 h_mo h_bu htx hR.hL hR.hp hR.2.2.1 (by omega)) h_mo rfl gX11_readRule_X11_number rfl hd_X11_number (by decide) ⟨by decide, by decide⟩ hl.1 rfl (Nat.le_of_ble_eq_true rfl) dX11_readRule_118 rfl (fun z_118 ws H locs hp h => ?_)
                obtain ⟨I_118, h_mo, ⟨e_118, g_118⟩, hf⟩ := hp
                have h_bu := hf.at h_bu (by first | omega | (dsimp only <;> omega))
                have h_dr := hf.at h_dr (by first | omega | (dsimp only <;> omega))
                have hE := hE.tr (hf.wk (fun j hj => by first | omega | (dsimp only at hj ⊢ <;> omega)))
                obtain ⟨hR, hv_118⟩ := hR.num e_118 g_118
                have gk : ∀ k : Nat, k ≠ 4 → k ≠ 5 → k ≠ 6 → I_118 k = I k := fun k q4 q5 q6 => (g_118 k q4 q5 q6).trans (gk k q4 q5 q6)
                refine r_istore (lv' := [(5, .int (zI z_118)), (4, .int (zI 1)), (0, .ref aM), (1, .int (zI st9)), (2, .int (zI q9)), (3, .int (zI (5 + 6 * z_24)))]) E hl dX11_readRule_121 (by decide) rfl (fun ls hl => ?_)
                refine r_aload_n E 2 hl rfl dX11_readRule_123 ?_
                refine r_get (v := .ref (ad 9)) E h h_mo rfl inn_X11_readRule_11 9 (by decide) fl_X11_readRule_20 rfl dX11_readRule_124 ?_
                refine r_iload_n E 5 hl rfl dX11_readRule_127 ?_
                refine r_iconst E dX11_readRule_128 ?_
                refine r_iadd E dX11_readRule_129 ?_
                refine r_iload E 1 hl rfl dX11_readRule_130 ?_
                refine r_if_eq E 141 dX11_readRule_132 (by decide) (by omega) (fun c_132 => ?_) (fun c_132 => ?_)
                · skip
                  exfalso; omega
                · skip
                  refine r_iload E 0 hl rfl dX11_readRule_135 ?_
                  refine r_ineg E dX11_readRule_137 ?_
                  refine r_goto E 143 dX11_readRule_138 (by decide) ?_
                  refine r_iast E h h_dr (by omega) (by decide) dX11_readRule_143 (fun ws H locs h hu => ?_)
                  have h_mo := hu.keep h_mo (by omega)
                  have h_bu := hu.keep h_bu (by omega)
                  have h_dr : ws[b + 3]? = some (ad 9, aI cy 1111 (uZ dr3 ((5 + 6 * z_24) + 4) (-z_118))) := hu.1
                  have hE := hE.tr (hu.eqx (by first | omega | (dsimp only <;> omega)))
                  have hR : PR bu L I_118 (uZ dr3 ((5 + 6 * z_24) + 4) (-z_118)) (pEqB bu L (5 + 6 * z_24) (pE bu L (5 + 6 * z_24) 3 S)) := hR.set (fun hh => by rw [hmb, hv_118 hh])
                  refine r_aload_n E 2 hl rfl dX11_readRule_144 ?_
                  refine r_get (v := .ref (ad 9)) E h h_mo rfl inn_X11_readRule_11 9 (by decide) fl_X11_readRule_20 rfl dX11_readRule_145 ?_
                  refine r_iload_n E 5 hl rfl dX11_readRule_148 ?_
                  refine r_iconst E dX11_readRule_149 ?_
                  refine r_iadd E dX11_readRule_150 ?_
                  refine r_aload_n E 2 hl rfl dX11_readRule_151 ?_
                  refine r_ldcS E hX (i := 3) (tx := "distinct") (by decide +kernel) dX11_readRule_152 ?_
                  refine r_callVsI E hX h (As := [.ref (cy (100 + 3))]) (rest := [.int (zI ((5 + 6 * z_24) + 5)), .ref (ad 9)]) (k_X11_takeWord l 3 h_mo h_bu htx hR.hL hR.hp hR.2.2.1 (by decide)) h_mo rfl gX11_readRule_X11_takeWord rfl hd_X11_takeWord (by decide) ⟨by decide, by decide⟩ hl.1 rfl (Nat.le_of_ble_eq_true rfl) dX11_readRule_154 rfl (fun z_154 ws H locs hp h => ?_)
                  obtain ⟨I_154, h_mo, ⟨e_154, g_154⟩, hf⟩ := hp
                  have h_bu := hf.at h_bu (by first | omega | (dsimp only <;> omega))
                  have h_dr := hf.at h_dr (by first | omega | (dsimp only <;> omega))
                  have hE := hE.tr (hf.wk (fun j hj => by first | omega | (dsimp only at hj ⊢ <;> omega)))
                  obtain ⟨hz9, hR⟩ := hR.wrd (by decide) e_154 g_154
                  have gk : ∀ k : Nat, k ≠ 4 → k ≠ 5 → k ≠ 6 → I_154 k = I k := fun k q4 q5 q6 => (g_154 k q4).trans (gk k q4 q5 q6)
                  have hpb := pwb_rng (t := bu) (L := L) (i := 3) (S := pEqB bu L (5 + 6 * z_24) (pE bu L (5 + 6 * z_24) 3 S))
                  refine r_cut (α := Int) (fun x_157 H locs ls => (x_157 = 0 ∧ z_154 = 0 ∨ x_157 = 1 ∧ ¬ z_154 = 0) ∧ Hp G ws A s.heap H locs ∧ lv_has ls 6 [(5, .int (zI z_118)), (4, .int (zI 1)), (0, .ref aM), (1, .int (zI st9)), (2, .int (zI q9)), (3, .int (zI (5 + 6 * z_24)))]) 165 (fun x_157 => [.int (zI x_157), .int (zI ((5 + 6 * z_24) + 5)), .ref (ad 9)]) ?_ ?_
                  · rintro x_157 H locs ls ⟨b_157, h, hl⟩
                    refine r_iast E h h_dr (by omega) (by decide) dX11_readRule_165 (fun ws H locs h hu => ?_)
                    have h_mo := hu.keep h_mo (by omega)
                    have h_bu := hu.keep h_bu (by omega)
                    have h_dr : ws[b + 3]? = some (ad 9, aI cy 1111 (uZ (uZ dr3 ((5 + 6 * z_24) + 4) (-z_118)) ((5 + 6 * z_24) + 5) x_157)) := hu.1
                    have hE := hE.tr (hu.eqx (by first | omega | (dsimp only <;> omega)))
                    have hR : PR bu L I_154 (uZ (uZ dr3 ((5 + 6 * z_24) + 4) (-z_118)) ((5 + 6 * z_24) + 5) x_157) (pEqC bu L (5 + 6 * z_24) (pEqB bu L (5 + 6 * z_24) (pE bu L (5 + 6 * z_24) 3 S))) := hR.set (fun _ => by omega)
                    refine r_goto E 182 dX11_readRule_166 (by decide) ?_
                    skip
                    refine r_aload_n E 2 hl rfl dX11_readRule_182 ?_
                    refine r_get (v := .ref (ad 9)) E h h_mo rfl inn_X11_readRule_11 9 (by decide) fl_X11_readRule_20 rfl dX11_readRule_183 ?_
                    refine r_iconst E dX11_readRule_186 ?_
                    refine r_dup2 E dX11_readRule_187 rfl rfl ?_
                    refine r_iald E h h_dr (by omega) (by decide) dX11_readRule_188 ?_
                    refine r_iconst E dX11_readRule_189 ?_
                    refine r_iadd E dX11_readRule_190 ?_
                    refine r_iast E h h_dr (by omega) (by decide) dX11_readRule_191 (fun ws H locs h hu => ?_)
                    have h_mo := hu.keep h_mo (by omega)
                    have h_bu := hu.keep h_bu (by omega)
                    have h_dr : ws[b + 3]? = some (ad 9, aI cy 1111 (uZ (uZ (uZ dr3 ((5 + 6 * z_24) + 4) (-z_118)) ((5 + 6 * z_24) + 5) x_157) 2 (((uZ (uZ dr3 ((5 + 6 * z_24) + 4) (-z_118)) ((5 + 6 * z_24) + 5) x_157) 2) + 1))) := hu.1
                    have hE := hE.tr (hu.eqx (by first | omega | (dsimp only <;> omega)))
                    have hR : PR bu L I_154 (uZ (uZ (uZ dr3 ((5 + 6 * z_24) + 4) (-z_118)) ((5 + 6 * z_24) + 5) x_157) 2 (((uZ (uZ dr3 ((5 + 6 * z_24) + 4) (-z_118)) ((5 + 6 * z_24) + 5) x_157) 2) + 1)) (pinc (pEqC bu L (5 + 6 * z_24) (pEqB bu L (5 + 6 * z_24) (pE bu L (5 + 6 * z_24) 3 S)))) := hR.set (fun hh => by rw [hR.g hh])
                    exact r_vret E h ⟨_, _, h_mo, h_dr, ⟨by
  rw [pRule_e h0 (by omega) (by omega), ← hz24]
  exact hR, gk⟩, hE⟩ dX11_readRule_192
                  · intro kb_157
                    refine r_if_eq E 164 dX11_readRule_157 (by decide) (by omega) (fun c_157 => ?_) (fun c_157 => ?_)
                    · refine r_iconst E dX11_readRule_164 ?_
                      exact kb_157 _ H locs ls ⟨Or.inl ⟨rfl, c_157⟩, h, hl⟩
                    · refine r_iconst E dX11_readRule_160 ?_
                      refine r_goto E 165 dX11_readRule_161 (by decide) ?_
                      exact kb_157 _ H locs ls ⟨Or.inr ⟨rfl, c_157⟩, h, hl⟩
        · skip
          refine r_aload_n E 0 hl rfl dX11_readRule_52 ?_
          refine r_get (v := .ref (ad 9)) E h h_mo rfl inn_X11_readRule_11 9 (by decide) fl_X11_readRule_20 rfl dX11_readRule_53 ?_
          refine r_iload_n E 3 hl rfl dX11_readRule_56 ?_
          refine r_iconst E dX11_readRule_57 ?_
          refine r_iadd E dX11_readRule_58 ?_
          refine r_iload E 4 hl rfl dX11_readRule_59 ?_
          refine r_iadd E dX11_readRule_61 ?_
          refine r_aload_n E 0 hl rfl dX11_readRule_62 ?_
          refine r_iconst E dX11_readRule_63 ?_
          refine r_bipush E dX11_readRule_64 (by decide) ?_
          refine r_callVI E h (As := [.int (zI 1), .int (zI 9)]) (rest := [.int (zI (((5 + 6 * z_24) + 1) + k)), .ref (ad 9)]) (k_X11_number l 1 9 h_mo h_bu htx hR.hL hR.hp hR.2.2.1 (by omega)) h_mo rfl gX11_readRule_X11_number rfl hd_X11_number (by decide) ⟨by decide, by decide⟩ hl.1 rfl (Nat.le_of_ble_eq_true rfl) dX11_readRule_66 rfl (fun z_66 ws H locs hp h => ?_)
          obtain ⟨I_66, h_mo, ⟨e_66, g_66⟩, hf⟩ := hp
          have h_bu := hf.at h_bu (by first | omega | (dsimp only <;> omega))
          have h_dr := hf.at h_dr (by first | omega | (dsimp only <;> omega))
          have hE := hE.tr (hf.wk (fun j hj => by first | omega | (dsimp only at hj ⊢ <;> omega)))
          obtain ⟨hR, hv_66⟩ := hR.num e_66 g_66
          have gk : ∀ k : Nat, k ≠ 4 → k ≠ 5 → k ≠ 6 → I_66 k = I k := fun k q4 q5 q6 => (g_66 k q4 q5 q6).trans (gk k q4 q5 q6)
          refine r_iast E h h_dr (by omega) (by decide) dX11_readRule_69 (fun ws H locs h hu => ?_)
          have h_mo := hu.keep h_mo (by omega)
          have h_bu := hu.keep h_bu (by omega)
          have h_dr : ws[b + 3]? = some (ad 9, aI cy 1111 (uZ dr3 (((5 + 6 * z_24) + 1) + k) z_66)) := hu.1
          have hE := hE.tr (hu.eqx (by first | omega | (dsimp only <;> omega)))
          have hR : PR bu L I_66 (uZ dr3 (((5 + 6 * z_24) + 1) + k) z_66) (pE bu L (5 + 6 * z_24) (k + 1).toNat S) := by
            rw [show (k + 1).toNat = k.toNat + 1 by omega]
            show PR _ _ _ _ (pset (5 + 6 * z_24 + 1 + ((k.toNat : Nat) : Int)) _ _)
            rw [show ((k.toNat : Nat) : Int) = k by omega]
            exact hR.set hv_66
          refine r_iinc (lv' := [(4, .int (zI (k + 1))), (0, .ref aM), (1, .int (zI st9)), (2, .int (zI q9)), (3, .int (zI (5 + 6 * z_24)))]) E 4 hl rfl dX11_readRule_70 (by decide) rfl (fun ls hl => ?_)
          refine r_goto E 46 dX11_readRule_73 (by decide) ?_
          exact ih_46 _ H locs ls (by omega) ⟨ws, (k + 1), I_66, (uZ dr3 (((5 + 6 * z_24) + 1) + k) z_66), rfl, (by omega), (by omega), (by omega), h, h_mo, h_bu, h_dr, hE, lv_sub hl [1, 2, 3, 4, 0] rfl⟩
    · skip
      exfalso; omega
  · skip
    refine r_aload_n E 0 hl rfl dX11_readRule_10 ?_
    refine r_bipush E dX11_readRule_11 (by decide) ?_
    refine r_iload_n E 1 hl rfl dX11_readRule_13 ?_
    refine r_callVV E h (As := [.int (zI (-4)), .int (zI st9)]) (rest := []) (k_X11_report l (-4) st9 h_mo hR.2.2.1) h_mo rfl gX11_readRule_X11_report rfl hd_X11_report (by decide) ⟨by decide, by decide⟩ hl.1 rfl (Nat.le_of_ble_eq_true rfl) dX11_readRule_14 rfl (fun ws H locs hp h => ?_)
    obtain ⟨I_14, h_mo, ⟨e_14, g_14⟩, hf⟩ := hp
    have h_bu := hf.at h_bu (by first | omega | (dsimp only <;> omega))
    have h_dr := hf.at h_dr (by first | omega | (dsimp only <;> omega))
    have hE := hE.tr (hf.wk (fun j hj => by first | omega | (dsimp only at hj ⊢ <;> omega)))
    have hR : PR bu L I_14 dr (prep (-4) st9 S) := hR.rep (by decide) e_14 g_14
    have gk : ∀ k : Nat, k ≠ 4 → k ≠ 5 → k ≠ 6 → I_14 k = I k := fun k q4 q5 q6 => (g_14 k q5 q6).trans (gk k q4 q5 q6)
    have h14 : I_14 5 = -4 := by have := hR.2.2.2.1.1; rw [this]; exact congrArg (fun q : PSt => q.1) (if_neg (c := S.1 ≠ 0) (by omega))
    refine r_aload_n E 0 hl rfl dX11_readRule_17 ?_
    refine r_get (v := .ref (ad 9)) E h h_mo rfl inn_X11_readRule_11 9 (by decide) fl_X11_readRule_20 rfl dX11_readRule_18 ?_
    refine r_iconst E dX11_readRule_21 ?_
    refine r_iald E h h_dr (by omega) (by decide) dX11_readRule_22 ?_
    refine r_iconst E dX11_readRule_23 ?_
    refine r_callSI E h (As := [.int (zI (dr 2)), .int (zI 3)]) (rest := []) (k_X11_min l (dr 2) 3 (by omega)) gX11_readRule_X11_min rfl hd_X11_min (by decide) ⟨by decide, by decide⟩ hl.1 rfl (Nat.le_of_ble_eq_true rfl) dX11_readRule_24 rfl (fun z_24 ws H locs hp h => ?_)
    obtain ⟨e_z_24, rfl⟩ := hp
    refine r_callSI E h (As := [.int (zI z_24)]) (rest := []) (k_X11_rule l z_24) gX11_readRule_X11_rule rfl hd_X11_rule (by decide) ⟨by decide, by decide⟩ hl.1 rfl (Nat.le_of_ble_eq_true rfl) dX11_readRule_27 rfl (fun z_27 ws H locs hp h => ?_)
    obtain ⟨rfl, rfl⟩ := hp
    refine r_istore_n (lv' := [(3, .int (zI (5 + 6 * z_24))), (0, .ref aM), (1, .int (zI st9)), (2, .int (zI q9))]) E hl dX11_readRule_30 rfl (by decide) rfl (fun ls hl => ?_)
    refine r_aload_n E 1 hl rfl dX11_readRule_31 ?_
    refine r_callVI E h (As := []) (rest := []) (k_X11_isGood l h_mo hR.2.2.1) h_mo rfl gX11_readRule_X11_isGood rfl hd_X11_isGood (by decide) ⟨by decide, by decide⟩ hl.1 rfl (Nat.le_of_ble_eq_true rfl) dX11_readRule_32 rfl (fun z_32 ws H locs hp h => ?_)
    obtain ⟨e_z_32, rfl⟩ := hp
    refine r_if_ne E 39 dX11_readRule_35 (by decide) (by omega) (fun c_35 => ?_) (fun c_35 => ?_)
    · skip
      exfalso; omega
    · skip
      exact r_vret E h ⟨_, dr, h_mo, h_dr, ⟨by
  rw [pRule_4 h0 (by omega), show ((-4, st9, S.2.2.1, S.2.2.2) : PSt) = prep (-4) st9 S from (if_neg (by omega)).symm]
  exact hR, gk⟩, hE⟩ dX11_readRule_38
