theorem hd_X11_factor : yX11_factor.cls = RX11 ∧ yX11_factor.cls ≠ "java/lang/invoke/MethodHandle" ∧ yX11_factor.cls ≠ "java/lang/invoke/VarHandle" ∧ (parseMethodDescriptor yX11_factor.desc).map (fun d => d.parameters.length) = some 0 := by decide +kernel
theorem hd_X11_term : yX11_term.cls = RX11 ∧ yX11_term.cls ≠ "java/lang/invoke/MethodHandle" ∧ yX11_term.cls ≠ "java/lang/invoke/VarHandle" ∧ (parseMethodDescriptor yX11_term.desc).map (fun d => d.parameters.length) = some 0 := by decide +kernel
theorem hd_X11_sum : yX11_sum.cls = RX11 ∧ yX11_sum.cls ≠ "java/lang/invoke/MethodHandle" ∧ yX11_sum.cls ≠ "java/lang/invoke/VarHandle" ∧ (parseMethodDescriptor yX11_sum.desc).map (fun d => d.parameters.length) = some 0 := by decide +kernel
theorem fl_X11_factor_113 : Cond.fieldLink RX11 113 (TX11 13).1 (TX11 13).2.1 (TX11 13).2.2.1 ∈ wsX11_factor := List.mem_of_getElem? (i := 1) rfl
theorem inn_X11_factor_11 : ∀ w ∈ wsX110, w ∈ wsX11_factor := fun _ h => List.mem_cons_of_mem _ (List.mem_append_right _ h)
theorem fl_X11_factor_66 : Cond.fieldLink RX11 66 (TX11 4).1 (TX11 4).2.1 (TX11 4).2.2.1 ∈ wsX11_factor := List.mem_of_getElem? (i := 2) rfl
set_option maxHeartbeats 4000000 in
set_option maxRecDepth 100000 in
theorem k_X11_factor (l : Launch) {G : va_G} {cy : Nat → ClassId} {ws0 : va_W} {b aM : Nat} {I : Nat → Int} {ad : Nat → Nat} {bu : Int → Int} {dr : Int → Int} {L : Int} {S : PSt} {f : Nat} (n : Nat) (h_mo : ws0[b]? = some (aM, mO I ad)) (h_bu : ws0[b + 1]? = some (ad 1, aI cy 600 bu)) (h_dr : ws0[b + 3]? = some (ad 9, aI cy 1111 dr)) (hS : ∀ k : Nat, n = k + 1 → PCon l G cy yX11_sum wsX11_sum (rmS k) 3 k) (htx : TXok bu) (hR : PR bu L I dr S) (hG : PG L S) (hn0 : 0 ≤ I 13 ∧ I 13 + n = 5) (hz : n = 0 → S.1 ≠ 0) (hB : S.1 = 0 → 2 * S.2.2.2 4 + 1 ≤ 3 * S.2.2.1) (hF : S.1 = 0 → 6 * (L - S.2.2.1) + 1 < f) : MVs l yX11_factor wsX11_factor (rmF n) G cy [.ref aM] ws0 (PQ cy ws0 b aM I ad bu L (pP bu L f 0 (I 13) S)) := by
  refine MVs.of (own := RX11) (cc := cX11_factor) (nL := 4) (ret := none) (by decide) rfl rfl (Nat.le_of_ble_eq_true rfl) ?_
  intro p e s m below meth c A ls hX E h hl
  have hl : lv_has ls 4 [(0, .ref aM)] := hl
  have hE : Eqx ws0 ws0 (fun j => j = b ∨ j = b + 3) := Eqx.rf
  have gk : ∀ k : Nat, k ≠ 4 → k ≠ 5 → k ≠ 6 → I k = I k := fun _ _ _ _ => rfl
  skip
  refine r_aload_n E 0 hl rfl dX11_factor_0 ?_
  refine r_callVI E h (As := []) (rest := []) (k_X11_isGood l h_mo hR.2.2.1) h_mo rfl gX11_factor_X11_isGood rfl hd_X11_isGood (by first | decide | (constructor <;> dsimp only <;> omega)) ⟨Nat.le_of_ble_eq_true rfl, Nat.le_of_ble_eq_true rfl⟩ hl.1 rfl (Nat.le_of_ble_eq_true rfl) dX11_factor_1 rfl (fun z_1 ws H locs hp h => ?_)
  obtain ⟨e_z_1, rfl⟩ := hp
  refine r_if_ne E 8 dX11_factor_4 (by decide) (by omega) (fun c_4 => ?_) (fun c_4 => ?_)
  · skip
    have h0 : S.1 = 0 := by have := hR.2.2.2.1.1; omega
    have hgp := (hG.2 h0).1
    have hF1 := hF h0
    obtain ⟨n, rfl⟩ : ∃ k, n = k + 1 := ⟨n - 1, by omega⟩
    obtain ⟨f9, rfl⟩ : ∃ k, f = k + 1 := ⟨f - 1, by omega⟩
    refine r_aload_n E 0 hl rfl dX11_factor_8 ?_
    refine r_callVI E h (As := []) (rest := []) (k_X11_next l h_mo h_bu htx hR.hL hR.hp) h_mo rfl gX11_factor_X11_next rfl hd_X11_next (by first | decide | (constructor <;> dsimp only <;> omega)) ⟨Nat.le_of_ble_eq_true rfl, Nat.le_of_ble_eq_true rfl⟩ hl.1 rfl (Nat.le_of_ble_eq_true rfl) dX11_factor_9 rfl (fun z_9 ws H locs hp h => ?_)
    obtain ⟨e_9, I_9, h_mo, ⟨f_9, g_9⟩, hf⟩ := hp
    have h_bu := hf.at h_bu (by first | omega | (dsimp only <;> omega))
    have h_dr := hf.at h_dr (by first | omega | (dsimp only <;> omega))
    have hE := hE.tr (hf.wk (fun j hj => by first | omega | (dsimp only at hj ⊢ <;> omega)))
    have b_9 : z_9 = byA bu L (S).2.2.1 := hR.by h0 e_9
    have at4 : I_9 4 = (S).2.2.1 := hR.at4 h0 f_9
    have hR : PR bu L I_9 dr S := hR.mv f_9 g_9
    have gk : ∀ k : Nat, k ≠ 4 → k ≠ 5 → k ≠ 6 → I_9 k = I k := fun k q4 q5 q6 => (g_9 k q4).trans (gk k q4 q5 q6)
    have hbr := byA_rng htx (L := L) (p := S.2.2.1)
    refine r_istore_n (lv' := [(1, .int (zI z_9)), (0, .ref aM)]) E hl dX11_factor_12 rfl (by decide) rfl (fun ls hl => ?_)
    refine r_iload_n E 0 hl rfl dX11_factor_13 ?_
    refine r_bipush E dX11_factor_14 (by decide) ?_
    refine r_icmp_ne E 78 dX11_factor_16 (by decide) (by omega) (fun c_16 => ?_) (fun c_16 => ?_)
    · skip
      refine r_iload_n E 0 hl rfl dX11_factor_78 ?_
      refine r_callSI E h (As := [.int (zI z_9)]) (rest := []) (k_X11_isDigit l z_9 (by omega)) gX11_factor_X11_isDigit rfl hd_X11_isDigit (by first | decide | (constructor <;> dsimp only <;> omega)) ⟨Nat.le_of_ble_eq_true rfl, Nat.le_of_ble_eq_true rfl⟩ hl.1 rfl (Nat.le_of_ble_eq_true rfl) dX11_factor_79 rfl (fun z_79 ws H locs hp h => ?_)
      obtain ⟨e_z_79, rfl⟩ := hp
      refine r_if_eq E 89 dX11_factor_82 (by decide) (by omega) (fun c_82 => ?_) (fun c_82 => ?_)
      · skip
        refine r_aload_n E 1 hl rfl dX11_factor_89 ?_
        refine r_ldcS E hX (i := 0) (tx := "rule") (by decide +kernel) dX11_factor_90 ?_
        refine r_callVsI E hX h (As := [.ref (cy (100 + 0))]) (rest := []) (k_X11_takeWord l 0 h_mo h_bu htx hR.hL hR.hp hR.2.2.1 (by decide)) h_mo rfl gX11_factor_X11_takeWord rfl hd_X11_takeWord (by first | decide | (constructor <;> dsimp only <;> omega)) ⟨Nat.le_of_ble_eq_true rfl, Nat.le_of_ble_eq_true rfl⟩ hl.1 rfl (Nat.le_of_ble_eq_true rfl) dX11_factor_92 rfl (fun z_92 ws H locs hp h => ?_)
        obtain ⟨I_92, h_mo, ⟨e_92, g_92⟩, hf⟩ := hp
        have h_bu := hf.at h_bu (by first | omega | (dsimp only <;> omega))
        have h_dr := hf.at h_dr (by first | omega | (dsimp only <;> omega))
        have hE := hE.tr (hf.wk (fun j hj => by first | omega | (dsimp only at hj ⊢ <;> omega)))
        have hk0 := hR.tk h0 (by decide) e_92 g_92
        have gk : ∀ k : Nat, k ≠ 4 → k ≠ 5 → k ≠ 6 → I_92 k = I k := fun k q4 q5 q6 => (g_92 k q4).trans (gk k q4 q5 q6)
        refine r_if_eq E 102 dX11_factor_95 (by decide) (by omega) (fun c_95 => ?_) (fun c_95 => ?_)
        · skip
          obtain ⟨hh, _⟩ | ⟨_, w0, hR⟩ := hk0
          · exact absurd hh (by omega)
          refine r_aload_n E 1 hl rfl dX11_factor_102 ?_
          refine r_ldcS E hX (i := 1) (tx := "largest") (by decide +kernel) dX11_factor_103 ?_
          refine r_callVsI E hX h (As := [.ref (cy (100 + 1))]) (rest := []) (k_X11_takeWord l 1 h_mo h_bu htx hR.hL hR.hp hR.2.2.1 (by decide)) h_mo rfl gX11_factor_X11_takeWord rfl hd_X11_takeWord (by first | decide | (constructor <;> dsimp only <;> omega)) ⟨Nat.le_of_ble_eq_true rfl, Nat.le_of_ble_eq_true rfl⟩ hl.1 rfl (Nat.le_of_ble_eq_true rfl) dX11_factor_105 rfl (fun z_105 ws H locs hp h => ?_)
          obtain ⟨I_105, h_mo, ⟨e_105, g_105⟩, hf⟩ := hp
          have h_bu := hf.at h_bu (by first | omega | (dsimp only <;> omega))
          have h_dr := hf.at h_dr (by first | omega | (dsimp only <;> omega))
          have hE := hE.tr (hf.wk (fun j hj => by first | omega | (dsimp only at hj ⊢ <;> omega)))
          have hk1 := hR.tk h0 (by decide) e_105 g_105
          have gk : ∀ k : Nat, k ≠ 4 → k ≠ 5 → k ≠ 6 → I_105 k = I k := fun k q4 q5 q6 => (g_105 k q4).trans (gk k q4 q5 q6)
          refine r_if_eq E 115 dX11_factor_108 (by decide) (by omega) (fun c_108 => ?_) (fun c_108 => ?_)
          · skip
            obtain ⟨hh, _⟩ | ⟨_, w1, hR⟩ := hk1
            · exact absurd hh (by omega)
            refine r_aload_n E 1 hl rfl dX11_factor_115 ?_
            refine r_ldcS E hX (i := 2) (tx := "colour") (by decide +kernel) dX11_factor_116 ?_
            refine r_callVsI E hX h (As := [.ref (cy (100 + 2))]) (rest := []) (k_X11_takeWord l 2 h_mo h_bu htx hR.hL hR.hp hR.2.2.1 (by decide)) h_mo rfl gX11_factor_X11_takeWord rfl hd_X11_takeWord (by first | decide | (constructor <;> dsimp only <;> omega)) ⟨Nat.le_of_ble_eq_true rfl, Nat.le_of_ble_eq_true rfl⟩ hl.1 rfl (Nat.le_of_ble_eq_true rfl) dX11_factor_118 rfl (fun z_118 ws H locs hp h => ?_)
            obtain ⟨I_118, h_mo, ⟨e_118, g_118⟩, hf⟩ := hp
            have h_bu := hf.at h_bu (by first | omega | (dsimp only <;> omega))
            have h_dr := hf.at h_dr (by first | omega | (dsimp only <;> omega))
            have hE := hE.tr (hf.wk (fun j hj => by first | omega | (dsimp only at hj ⊢ <;> omega)))
            have hk2 := hR.tk h0 (by decide) e_118 g_118
            have gk : ∀ k : Nat, k ≠ 4 → k ≠ 5 → k ≠ 6 → I_118 k = I k := fun k q4 q5 q6 => (g_118 k q4).trans (gk k q4 q5 q6)
            refine r_if_eq E 128 dX11_factor_121 (by decide) (by omega) (fun c_121 => ?_) (fun c_121 => ?_)
            · skip
              obtain ⟨hh, _⟩ | ⟨_, w2, hR⟩ := hk2
              · exact absurd hh (by omega)
              refine r_iconst E dX11_factor_128 ?_
              refine r_istore_n (lv' := [(2, .int (zI (-1))), (1, .int (zI z_9)), (0, .ref aM)]) E hl dX11_factor_129 rfl (by decide) rfl (fun ls hl => ?_)
              refine r_iload_n E 0 hl rfl dX11_factor_130 ?_
              refine r_if_ge E 145 dX11_factor_131 (by decide) (by omega) (fun c_131 => ?_) (fun c_131 => ?_)
              · skip
                exfalso; omega
              · skip
                refine r_aload_n E 2 hl rfl dX11_factor_134 ?_
                refine r_iconst E dX11_factor_135 ?_
                refine r_sipush E dX11_factor_136 (by decide) ?_
                skip
                refine r_callVI E h (As := [.int (zI 0), .int (zI 9999)]) (rest := []) (k_X11_number l 0 9999 h_mo h_bu htx hR.hL hR.hp hR.2.2.1 (by omega)) h_mo rfl gX11_factor_X11_number rfl hd_X11_number (by first | decide | (constructor <;> dsimp only <;> omega)) ⟨Nat.le_of_ble_eq_true rfl, Nat.le_of_ble_eq_true rfl⟩ hl.1 rfl (Nat.le_of_ble_eq_true rfl) dX11_factor_139 rfl (fun z_139 ws H locs hp h => ?_)
                obtain ⟨I_139, h_mo, ⟨e_139, g_139⟩, hf⟩ := hp
                have h_bu := hf.at h_bu (by first | omega | (dsimp only <;> omega))
                have h_dr := hf.at h_dr (by first | omega | (dsimp only <;> omega))
                have hE := hE.tr (hf.wk (fun j hj => by first | omega | (dsimp only at hj ⊢ <;> omega)))
                obtain ⟨hR, hv⟩ := hR.num e_139 g_139
                have gk : ∀ k : Nat, k ≠ 4 → k ≠ 5 → k ≠ 6 → I_139 k = I k := fun k q4 q5 q6 => (g_139 k q4 q5 q6).trans (gk k q4 q5 q6)
                have hP := pnum_PL (t := bu) (lo := 0) (hi := 9999) hG
                refine r_goto E 146 dX11_factor_142 (by decide) ?_
                refine r_istore_n (lv' := [(3, .int (zI z_139)), (2, .int (zI (-1))), (1, .int (zI z_9)), (0, .ref aM)]) E hl dX11_factor_146 rfl (by decide) rfl (fun ls hl => ?_)
                have h4 := hP.e4 hR hB (by decide)
                refine r_aload_n E 3 hl rfl dX11_factor_147 ?_
                refine r_iload_n E 1 hl rfl dX11_factor_148 ?_
                refine r_if_ge E 156 dX11_factor_149 (by decide) (by omega) (fun c_149 => ?_) (fun c_149 => ?_)
                · skip
                  exfalso; omega
                · skip
                  refine r_iconst E dX11_factor_152 ?_
                  refine r_goto E 157 dX11_factor_153 (by decide) ?_
                  refine r_callVV E h (As := [.int (zI 0)]) (rest := []) (k_X11_emit l 0 h_mo h_dr hR.2.2.1 h4) h_mo rfl gX11_factor_X11_emit rfl hd_X11_emit (by first | decide | (constructor <;> dsimp only <;> omega)) ⟨Nat.le_of_ble_eq_true rfl, Nat.le_of_ble_eq_true rfl⟩ hl.1 rfl (Nat.le_of_ble_eq_true rfl) dX11_factor_157 rfl (fun ws H locs hp h => ?_)
                  obtain ⟨dr_157, h_dr, e_157, hf⟩ := hp
                  have h_mo := hf.at h_mo (by first | omega | (dsimp only <;> omega))
                  have h_bu := hf.at h_bu (by first | omega | (dsimp only <;> omega))
                  have hE := hE.tr (hf.wk (fun j hj => by first | omega | (dsimp only at hj ⊢ <;> omega)))
                  have hR : PR bu L I_139 dr_157 (pemit 0 (pnum bu L 0 9999 S)) := hR.emit e_157
                  have hP := hP.tr (pemit_PL hP.1 0)
                  have h4 := hP.e4 hR hB (by decide)
                  refine r_aload_n E 3 hl rfl dX11_factor_160 ?_
                  refine r_iload_n E 0 hl rfl dX11_factor_161 ?_
                  refine r_callVV E h (As := [.int (zI z_139)]) (rest := []) (k_X11_emit l z_139 h_mo h_dr hR.2.2.1 h4) h_mo rfl gX11_factor_X11_emit rfl hd_X11_emit (by first | decide | (constructor <;> dsimp only <;> omega)) ⟨Nat.le_of_ble_eq_true rfl, Nat.le_of_ble_eq_true rfl⟩ hl.1 rfl (Nat.le_of_ble_eq_true rfl) dX11_factor_162 rfl (fun ws H locs hp h => ?_)
                  obtain ⟨dr_162, h_dr, e_162, hf⟩ := hp
                  have h_mo := hf.at h_mo (by first | omega | (dsimp only <;> omega))
                  have h_bu := hf.at h_bu (by first | omega | (dsimp only <;> omega))
                  have hE := hE.tr (hf.wk (fun j hj => by first | omega | (dsimp only at hj ⊢ <;> omega)))
                  have hR : PR bu L I_139 dr_162 (pemit z_139 (pemit 0 (pnum bu L 0 9999 S))) := hR.emit e_162
                  have hP := hP.tr (pemit_PL hP.1 z_139)
                  exact r_vret E h ⟨_, _, h_mo, h_dr, ⟨by
  rw [show pP bu L (f9 + 1) 0 (I 13) S = pemit z_139 (pemit 0 (pnum bu L 0 9999 S)) from (by
    by_cases c2 : 48 ≤ byA bu L S.2.2.1 ∧ byA bu L S.2.2.1 ≤ 57
    · rw [pF_dig h0 c2]
      exact pemit_cg (fun hh => (hv (pemit_1 hh)).symm)
    · rw [pF_non h0 (by omega) c2 w0 w1 w2, show pnum bu L 0 9999 S = (-2, S.2.2.1, S.2.2.1, S.2.2.2) from (if_neg (by omega)).trans (if_pos c2)]
      rfl)]
  exact hR, gk⟩, hE⟩ dX11_factor_165
            · skip
              obtain ⟨_, w2, hR⟩ | ⟨hh, _⟩ := hk2
              rotate_left
              · exact absurd hh (by omega)
              have hP := padv_PL hG h0 (by decide) w2
              refine r_iconst E dX11_factor_124 ?_
              refine r_goto E 129 dX11_factor_125 (by decide) ?_
              refine r_istore_n (lv' := [(2, .int (zI 2)), (1, .int (zI z_9)), (0, .ref aM)]) E hl dX11_factor_129 rfl (by decide) rfl (fun ls hl => ?_)
              refine r_iload_n E 0 hl rfl dX11_factor_130 ?_
              refine r_if_ge E 145 dX11_factor_131 (by decide) (by omega) (fun c_131 => ?_) (fun c_131 => ?_)
              · skip
                refine r_iload_n E 0 hl rfl dX11_factor_145 ?_
                refine r_istore_n (lv' := [(3, .int (zI 2)), (2, .int (zI 2)), (1, .int (zI z_9)), (0, .ref aM)]) E hl dX11_factor_146 rfl (by decide) rfl (fun ls hl => ?_)
                have h4 := hP.e4 hR hB (by decide)
                refine r_aload_n E 3 hl rfl dX11_factor_147 ?_
                refine r_iload_n E 1 hl rfl dX11_factor_148 ?_
                refine r_if_ge E 156 dX11_factor_149 (by decide) (by omega) (fun c_149 => ?_) (fun c_149 => ?_)
                · skip
                  refine r_iconst E dX11_factor_156 ?_
                  refine r_callVV E h (As := [.int (zI 1)]) (rest := []) (k_X11_emit l 1 h_mo h_dr hR.2.2.1 h4) h_mo rfl gX11_factor_X11_emit rfl hd_X11_emit (by first | decide | (constructor <;> dsimp only <;> omega)) ⟨Nat.le_of_ble_eq_true rfl, Nat.le_of_ble_eq_true rfl⟩ hl.1 rfl (Nat.le_of_ble_eq_true rfl) dX11_factor_157 rfl (fun ws H locs hp h => ?_)
                  obtain ⟨dr_157, h_dr, e_157, hf⟩ := hp
                  have h_mo := hf.at h_mo (by first | omega | (dsimp only <;> omega))
                  have h_bu := hf.at h_bu (by first | omega | (dsimp only <;> omega))
                  have hE := hE.tr (hf.wk (fun j hj => by first | omega | (dsimp only at hj ⊢ <;> omega)))
                  have hR : PR bu L I_118 dr_157 (pemit 1 (padv bu L 2 S)) := hR.emit e_157
                  have hP := hP.tr (pemit_PL hP.1 1)
                  have h4 := hP.e4 hR hB (by decide)
                  refine r_aload_n E 3 hl rfl dX11_factor_160 ?_
                  refine r_iload_n E 0 hl rfl dX11_factor_161 ?_
                  refine r_callVV E h (As := [.int (zI 2)]) (rest := []) (k_X11_emit l 2 h_mo h_dr hR.2.2.1 h4) h_mo rfl gX11_factor_X11_emit rfl hd_X11_emit (by first | decide | (constructor <;> dsimp only <;> omega)) ⟨Nat.le_of_ble_eq_true rfl, Nat.le_of_ble_eq_true rfl⟩ hl.1 rfl (Nat.le_of_ble_eq_true rfl) dX11_factor_162 rfl (fun ws H locs hp h => ?_)
                  obtain ⟨dr_162, h_dr, e_162, hf⟩ := hp
                  have h_mo := hf.at h_mo (by first | omega | (dsimp only <;> omega))
                  have h_bu := hf.at h_bu (by first | omega | (dsimp only <;> omega))
                  have hE := hE.tr (hf.wk (fun j hj => by first | omega | (dsimp only at hj ⊢ <;> omega)))
                  have hR : PR bu L I_118 dr_162 (pemit 2 (pemit 1 (padv bu L 2 S))) := hR.emit e_162
                  have hP := hP.tr (pemit_PL hP.1 2)
                  exact r_vret E h ⟨_, _, h_mo, h_dr, ⟨by
  rw [show pP bu L (f9 + 1) 0 (I 13) S = pemit 2 (pemit 1 (padv bu L 2 S)) from pF_w2 h0 (by omega) (by omega) w0 w1 w2]
  exact hR, gk⟩, hE⟩ dX11_factor_165
                · skip
                  exfalso; omega
              · skip
                exfalso; omega
          · skip
            obtain ⟨_, w1, hR⟩ | ⟨hh, _⟩ := hk1
            rotate_left
            · exact absurd hh (by omega)
            have hP := padv_PL hG h0 (by decide) w1
            refine r_iconst E dX11_factor_111 ?_
            refine r_goto E 129 dX11_factor_112 (by decide) ?_
            refine r_istore_n (lv' := [(2, .int (zI 1)), (1, .int (zI z_9)), (0, .ref aM)]) E hl dX11_factor_129 rfl (by decide) rfl (fun ls hl => ?_)
            refine r_iload_n E 0 hl rfl dX11_factor_130 ?_
            refine r_if_ge E 145 dX11_factor_131 (by decide) (by omega) (fun c_131 => ?_) (fun c_131 => ?_)
            · skip
              refine r_iload_n E 0 hl rfl dX11_factor_145 ?_
              refine r_istore_n (lv' := [(3, .int (zI 1)), (2, .int (zI 1)), (1, .int (zI z_9)), (0, .ref aM)]) E hl dX11_factor_146 rfl (by decide) rfl (fun ls hl => ?_)
              have h4 := hP.e4 hR hB (by decide)
              refine r_aload_n E 3 hl rfl dX11_factor_147 ?_
              refine r_iload_n E 1 hl rfl dX11_factor_148 ?_
              refine r_if_ge E 156 dX11_factor_149 (by decide) (by omega) (fun c_149 => ?_) (fun c_149 => ?_)
              · skip
                refine r_iconst E dX11_factor_156 ?_
                refine r_callVV E h (As := [.int (zI 1)]) (rest := []) (k_X11_emit l 1 h_mo h_dr hR.2.2.1 h4) h_mo rfl gX11_factor_X11_emit rfl hd_X11_emit (by first | decide | (constructor <;> dsimp only <;> omega)) ⟨Nat.le_of_ble_eq_true rfl, Nat.le_of_ble_eq_true rfl⟩ hl.1 rfl (Nat.le_of_ble_eq_true rfl) dX11_factor_157 rfl (fun ws H locs hp h => ?_)
                obtain ⟨dr_157, h_dr, e_157, hf⟩ := hp
                have h_mo := hf.at h_mo (by first | omega | (dsimp only <;> omega))
                have h_bu := hf.at h_bu (by first | omega | (dsimp only <;> omega))
                have hE := hE.tr (hf.wk (fun j hj => by first | omega | (dsimp only at hj ⊢ <;> omega)))
                have hR : PR bu L I_105 dr_157 (pemit 1 (padv bu L 1 S)) := hR.emit e_157
                have hP := hP.tr (pemit_PL hP.1 1)
                have h4 := hP.e4 hR hB (by decide)
                refine r_aload_n E 3 hl rfl dX11_factor_160 ?_
                refine r_iload_n E 0 hl rfl dX11_factor_161 ?_
                refine r_callVV E h (As := [.int (zI 1)]) (rest := []) (k_X11_emit l 1 h_mo h_dr hR.2.2.1 h4) h_mo rfl gX11_factor_X11_emit rfl hd_X11_emit (by first | decide | (constructor <;> dsimp only <;> omega)) ⟨Nat.le_of_ble_eq_true rfl, Nat.le_of_ble_eq_true rfl⟩ hl.1 rfl (Nat.le_of_ble_eq_true rfl) dX11_factor_162 rfl (fun ws H locs hp h => ?_)
                obtain ⟨dr_162, h_dr, e_162, hf⟩ := hp
                have h_mo := hf.at h_mo (by first | omega | (dsimp only <;> omega))
                have h_bu := hf.at h_bu (by first | omega | (dsimp only <;> omega))
                have hE := hE.tr (hf.wk (fun j hj => by first | omega | (dsimp only at hj ⊢ <;> omega)))
                have hR : PR bu L I_105 dr_162 (pemit 1 (pemit 1 (padv bu L 1 S))) := hR.emit e_162
                have hP := hP.tr (pemit_PL hP.1 1)
                exact r_vret E h ⟨_, _, h_mo, h_dr, ⟨by
  rw [show pP bu L (f9 + 1) 0 (I 13) S = pemit 1 (pemit 1 (padv bu L 1 S)) from pF_w1 h0 (by omega) (by omega) w0 w1]
  exact hR, gk⟩, hE⟩ dX11_factor_165
              · skip
                exfalso; omega
            · skip
              exfalso; omega
        · skip
          obtain ⟨_, w0, hR⟩ | ⟨hh, _⟩ := hk0
          rotate_left
          · exact absurd hh (by omega)
          have hP := padv_PL hG h0 (by decide) w0
          refine r_iconst E dX11_factor_98 ?_
          refine r_goto E 129 dX11_factor_99 (by decide) ?_
          refine r_istore_n (lv' := [(2, .int (zI 0)), (1, .int (zI z_9)), (0, .ref aM)]) E hl dX11_factor_129 rfl (by decide) rfl (fun ls hl => ?_)
          refine r_iload_n E 0 hl rfl dX11_factor_130 ?_
          refine r_if_ge E 145 dX11_factor_131 (by decide) (by omega) (fun c_131 => ?_) (fun c_131 => ?_)
          · skip
            refine r_iload_n E 0 hl rfl dX11_factor_145 ?_
            refine r_istore_n (lv' := [(3, .int (zI 0)), (2, .int (zI 0)), (1, .int (zI z_9)), (0, .ref aM)]) E hl dX11_factor_146 rfl (by decide) rfl (fun ls hl => ?_)
            have h4 := hP.e4 hR hB (by decide)
            refine r_aload_n E 3 hl rfl dX11_factor_147 ?_
            refine r_iload_n E 1 hl rfl dX11_factor_148 ?_
            refine r_if_ge E 156 dX11_factor_149 (by decide) (by omega) (fun c_149 => ?_) (fun c_149 => ?_)
            · skip
              refine r_iconst E dX11_factor_156 ?_
              refine r_callVV E h (As := [.int (zI 1)]) (rest := []) (k_X11_emit l 1 h_mo h_dr hR.2.2.1 h4) h_mo rfl gX11_factor_X11_emit rfl hd_X11_emit (by first | decide | (constructor <;> dsimp only <;> omega)) ⟨Nat.le_of_ble_eq_true rfl, Nat.le_of_ble_eq_true rfl⟩ hl.1 rfl (Nat.le_of_ble_eq_true rfl) dX11_factor_157 rfl (fun ws H locs hp h => ?_)
              obtain ⟨dr_157, h_dr, e_157, hf⟩ := hp
              have h_mo := hf.at h_mo (by first | omega | (dsimp only <;> omega))
              have h_bu := hf.at h_bu (by first | omega | (dsimp only <;> omega))
              have hE := hE.tr (hf.wk (fun j hj => by first | omega | (dsimp only at hj ⊢ <;> omega)))
              have hR : PR bu L I_92 dr_157 (pemit 1 (padv bu L 0 S)) := hR.emit e_157
              have hP := hP.tr (pemit_PL hP.1 1)
              have h4 := hP.e4 hR hB (by decide)
              refine r_aload_n E 3 hl rfl dX11_factor_160 ?_
              refine r_iload_n E 0 hl rfl dX11_factor_161 ?_
              refine r_callVV E h (As := [.int (zI 0)]) (rest := []) (k_X11_emit l 0 h_mo h_dr hR.2.2.1 h4) h_mo rfl gX11_factor_X11_emit rfl hd_X11_emit (by first | decide | (constructor <;> dsimp only <;> omega)) ⟨Nat.le_of_ble_eq_true rfl, Nat.le_of_ble_eq_true rfl⟩ hl.1 rfl (Nat.le_of_ble_eq_true rfl) dX11_factor_162 rfl (fun ws H locs hp h => ?_)
              obtain ⟨dr_162, h_dr, e_162, hf⟩ := hp
              have h_mo := hf.at h_mo (by first | omega | (dsimp only <;> omega))
              have h_bu := hf.at h_bu (by first | omega | (dsimp only <;> omega))
              have hE := hE.tr (hf.wk (fun j hj => by first | omega | (dsimp only at hj ⊢ <;> omega)))
              have hR : PR bu L I_92 dr_162 (pemit 0 (pemit 1 (padv bu L 0 S))) := hR.emit e_162
              have hP := hP.tr (pemit_PL hP.1 0)
              exact r_vret E h ⟨_, _, h_mo, h_dr, ⟨by
  rw [show pP bu L (f9 + 1) 0 (I 13) S = pemit 0 (pemit 1 (padv bu L 0 S)) from pF_w0 h0 (by omega) (by omega) w0]
  exact hR, gk⟩, hE⟩ dX11_factor_165
            · skip
              exfalso; omega
          · skip
            exfalso; omega
      · skip
        refine r_iconst E dX11_factor_85 ?_
        refine r_goto E 129 dX11_factor_86 (by decide) ?_
        refine r_istore_n (lv' := [(2, .int (zI (-1))), (1, .int (zI z_9)), (0, .ref aM)]) E hl dX11_factor_129 rfl (by decide) rfl (fun ls hl => ?_)
        refine r_iload_n E 0 hl rfl dX11_factor_130 ?_
        refine r_if_ge E 145 dX11_factor_131 (by decide) (by omega) (fun c_131 => ?_) (fun c_131 => ?_)
        · skip
          exfalso; omega
        · skip
          refine r_aload_n E 2 hl rfl dX11_factor_134 ?_
          refine r_iconst E dX11_factor_135 ?_
          refine r_sipush E dX11_factor_136 (by decide) ?_
          skip
          refine r_callVI E h (As := [.int (zI 0), .int (zI 9999)]) (rest := []) (k_X11_number l 0 9999 h_mo h_bu htx hR.hL hR.hp hR.2.2.1 (by omega)) h_mo rfl gX11_factor_X11_number rfl hd_X11_number (by first | decide | (constructor <;> dsimp only <;> omega)) ⟨Nat.le_of_ble_eq_true rfl, Nat.le_of_ble_eq_true rfl⟩ hl.1 rfl (Nat.le_of_ble_eq_true rfl) dX11_factor_139 rfl (fun z_139 ws H locs hp h => ?_)
          obtain ⟨I_139, h_mo, ⟨e_139, g_139⟩, hf⟩ := hp
          have h_bu := hf.at h_bu (by first | omega | (dsimp only <;> omega))
          have h_dr := hf.at h_dr (by first | omega | (dsimp only <;> omega))
          have hE := hE.tr (hf.wk (fun j hj => by first | omega | (dsimp only at hj ⊢ <;> omega)))
          obtain ⟨hR, hv⟩ := hR.num e_139 g_139
          have gk : ∀ k : Nat, k ≠ 4 → k ≠ 5 → k ≠ 6 → I_139 k = I k := fun k q4 q5 q6 => (g_139 k q4 q5 q6).trans (gk k q4 q5 q6)
          have hP := pnum_PL (t := bu) (lo := 0) (hi := 9999) hG
          refine r_goto E 146 dX11_factor_142 (by decide) ?_
          refine r_istore_n (lv' := [(3, .int (zI z_139)), (2, .int (zI (-1))), (1, .int (zI z_9)), (0, .ref aM)]) E hl dX11_factor_146 rfl (by decide) rfl (fun ls hl => ?_)
          have h4 := hP.e4 hR hB (by decide)
          refine r_aload_n E 3 hl rfl dX11_factor_147 ?_
          refine r_iload_n E 1 hl rfl dX11_factor_148 ?_
          refine r_if_ge E 156 dX11_factor_149 (by decide) (by omega) (fun c_149 => ?_) (fun c_149 => ?_)
          · skip
            exfalso; omega
          · skip
            refine r_iconst E dX11_factor_152 ?_
            refine r_goto E 157 dX11_factor_153 (by decide) ?_
            refine r_callVV E h (As := [.int (zI 0)]) (rest := []) (k_X11_emit l 0 h_mo h_dr hR.2.2.1 h4) h_mo rfl gX11_factor_X11_emit rfl hd_X11_emit (by first | decide | (constructor <;> dsimp only <;> omega)) ⟨Nat.le_of_ble_eq_true rfl, Nat.le_of_ble_eq_true rfl⟩ hl.1 rfl (Nat.le_of_ble_eq_true rfl) dX11_factor_157 rfl (fun ws H locs hp h => ?_)
            obtain ⟨dr_157, h_dr, e_157, hf⟩ := hp
            have h_mo := hf.at h_mo (by first | omega | (dsimp only <;> omega))
            have h_bu := hf.at h_bu (by first | omega | (dsimp only <;> omega))
            have hE := hE.tr (hf.wk (fun j hj => by first | omega | (dsimp only at hj ⊢ <;> omega)))
            have hR : PR bu L I_139 dr_157 (pemit 0 (pnum bu L 0 9999 S)) := hR.emit e_157
            have hP := hP.tr (pemit_PL hP.1 0)
            have h4 := hP.e4 hR hB (by decide)
            refine r_aload_n E 3 hl rfl dX11_factor_160 ?_
            refine r_iload_n E 0 hl rfl dX11_factor_161 ?_
            refine r_callVV E h (As := [.int (zI z_139)]) (rest := []) (k_X11_emit l z_139 h_mo h_dr hR.2.2.1 h4) h_mo rfl gX11_factor_X11_emit rfl hd_X11_emit (by first | decide | (constructor <;> dsimp only <;> omega)) ⟨Nat.le_of_ble_eq_true rfl, Nat.le_of_ble_eq_true rfl⟩ hl.1 rfl (Nat.le_of_ble_eq_true rfl) dX11_factor_162 rfl (fun ws H locs hp h => ?_)
            obtain ⟨dr_162, h_dr, e_162, hf⟩ := hp
            have h_mo := hf.at h_mo (by first | omega | (dsimp only <;> omega))
            have h_bu := hf.at h_bu (by first | omega | (dsimp only <;> omega))
            have hE := hE.tr (hf.wk (fun j hj => by first | omega | (dsimp only at hj ⊢ <;> omega)))
            have hR : PR bu L I_139 dr_162 (pemit z_139 (pemit 0 (pnum bu L 0 9999 S))) := hR.emit e_162
            have hP := hP.tr (pemit_PL hP.1 z_139)
            exact r_vret E h ⟨_, _, h_mo, h_dr, ⟨by
  rw [show pP bu L (f9 + 1) 0 (I 13) S = pemit z_139 (pemit 0 (pnum bu L 0 9999 S)) from (by
    rw [pF_dig h0 (by omega)]
    exact pemit_cg (fun hh => (hv (pemit_1 hh)).symm))]
  exact hR, gk⟩, hE⟩ dX11_factor_165
    · skip
      refine r_aload_n E 1 hl rfl dX11_factor_19 ?_
      have hlt : S.2.2.1 < L := byA_in (t := bu) (by omega)
      have q13a := gk 13 (by decide) (by decide) (by decide)
      refine r_get (v := .int (zI (I_9 13))) E h h_mo rfl inn_X11_factor_11 13 (by decide) fl_X11_factor_113 rfl dX11_factor_20 ?_
      refine r_iconst E dX11_factor_23 ?_
      refine r_icmp_ne E 37 dX11_factor_24 (by decide) (by omega) (fun c_24 => ?_) (fun c_24 => ?_)
      · skip
        skip
        refine r_aload_n E 1 hl rfl dX11_factor_37 ?_
        refine r_dup E dX11_factor_38 rfl ?_
        refine r_get (v := .int (zI (I_9 4))) E h h_mo rfl inn_X11_factor_11 4 (by decide) fl_X11_factor_66 rfl dX11_factor_39 ?_
        refine r_iconst E dX11_factor_42 ?_
        refine r_iadd E dX11_factor_43 ?_
        refine r_put E h h_mo rfl inn_X11_factor_11 4 (by decide) fl_X11_factor_66 tyX11 tyX11_ok nmX11 rfl rfl rfl (Nat.le_of_ble_eq_true rfl) dX11_factor_44 (fun ws H locs h hu => ?_)
        have h_mo : ws[b]? = some (aM, mO (va_up I_9 4 ((I_9 4) + 1)) ad) := hu.1
        have h_bu := hu.keep h_bu (by omega)
        have h_dr := hu.keep h_dr (by omega)
        have hE := hE.tr (hu.eqx (by first | omega | (dsimp only <;> omega)))
        refine r_aload_n E 1 hl rfl dX11_factor_47 ?_
        refine r_dup E dX11_factor_48 rfl ?_
        refine r_get (v := .int (zI (I_9 13))) E h h_mo rfl inn_X11_factor_11 13 (by decide) fl_X11_factor_113 rfl dX11_factor_49 ?_
        refine r_iconst E dX11_factor_52 ?_
        refine r_iadd E dX11_factor_53 ?_
        refine r_put E h h_mo rfl inn_X11_factor_11 13 (by decide) fl_X11_factor_113 tyX11 tyX11_ok nmX11 rfl rfl rfl (Nat.le_of_ble_eq_true rfl) dX11_factor_54 (fun ws H locs h hu => ?_)
        have h_mo : ws[b]? = some (aM, mO (va_up (va_up I_9 4 ((I_9 4) + 1)) 13 ((I_9 13) + 1)) ad) := hu.1
        have h_bu := hu.keep h_bu (by omega)
        have h_dr := hu.keep h_dr (by omega)
        have hE := hE.tr (hu.eqx (by first | omega | (dsimp only <;> omega)))
        have q13 := gk 13 (by decide) (by decide) (by decide)
        have e4 : (va_up (va_up I_9 4 ((I_9 4) + 1)) 13 ((I_9 13) + 1)) 4 = I_9 4 + 1 := by simp [va_up]
        have e13 : (va_up (va_up I_9 4 ((I_9 4) + 1)) 13 ((I_9 13) + 1)) 13 = I_9 13 + 1 := by simp [va_up]
        have ek : ∀ k : Nat, k ≠ 4 → k ≠ 13 → (va_up (va_up I_9 4 ((I_9 4) + 1)) 13 ((I_9 13) + 1)) k = I_9 k := fun k k1 k2 => by simp [va_up, k1, k2]
        have hby := byte_PL (t := bu) hG h0 (c := 40) (by omega) (by decide)
        have hR : PR bu L (va_up (va_up I_9 4 ((I_9 4) + 1)) 13 ((I_9 13) + 1)) dr ((0, S.2.1, sk bu L (S.2.2.1 + 1), S.2.2.2) : PSt) := hR.step h0 at4 (by omega) (ek 3 (by decide) (by decide)) e4 (ek 5 (by decide) (by decide)) (ek 6 (by decide) (by decide))
        refine r_aload_n E 1 hl rfl dX11_factor_57 ?_
        refine r_callVsV E hX h (As := []) (rest := []) (hS n rfl (f := f9) h_mo h_bu h_dr htx hR hby.1 (by omega) (fun _ => by omega) (fun _ => by have h7 := hby.2 rfl; dsimp only at h7 ⊢; omega) (fun _ => by have h7 := hby.2 rfl; dsimp only at h7; show 6 * (L - sk bu L (S.2.2.1 + 1)) + 5 < _; omega)) h_mo rfl gX11_factor_X11_sum rfl hd_X11_sum (by first | decide | (constructor <;> dsimp only <;> omega)) ⟨Nat.le_of_ble_eq_true rfl, Nat.le_of_ble_eq_true rfl⟩ hl.1 rfl (Nat.le_of_ble_eq_true rfl) dX11_factor_58 rfl (fun ws H locs hp h => ?_)
        obtain ⟨I_58, dr_58, h_mo, h_dr, ⟨hR, g_58⟩, hf⟩ := hp
        have h_bu := hf.at h_bu (by first | omega | (dsimp only <;> omega))
        have hE := hE.tr (hf.wk (fun j hj => by first | omega | (dsimp only at hj ⊢ <;> omega)))
        refine r_aload_n E 1 hl rfl dX11_factor_61 ?_
        refine r_bipush E dX11_factor_62 (by decide) ?_
        refine r_callVV E h (As := [.int (zI 41)]) (rest := []) (k_X11_expect l 41 h_mo h_bu htx hR.hL hR.hp hR.2.2.1 (by omega)) h_mo rfl gX11_factor_X11_expect rfl hd_X11_expect (by first | decide | (constructor <;> dsimp only <;> omega)) ⟨Nat.le_of_ble_eq_true rfl, Nat.le_of_ble_eq_true rfl⟩ hl.1 rfl (Nat.le_of_ble_eq_true rfl) dX11_factor_64 rfl (fun ws H locs hp h => ?_)
        obtain ⟨I_64, h_mo, ⟨e_64, g_64⟩, hf⟩ := hp
        have h_bu := hf.at h_bu (by first | omega | (dsimp only <;> omega))
        have h_dr := hf.at h_dr (by first | omega | (dsimp only <;> omega))
        have hE := hE.tr (hf.wk (fun j hj => by first | omega | (dsimp only at hj ⊢ <;> omega)))
        have hR : PR bu L I_64 dr_58 (pexp bu L 41 (pP bu L f9 3 (va_up (va_up I_9 4 ((I_9 4) + 1)) 13 ((I_9 13) + 1) 13) (((0, S.2.1, sk bu L (S.2.2.1 + 1), S.2.2.2) : PSt)))) := hR.exp (by decide) e_64 g_64
        refine r_aload_n E 1 hl rfl dX11_factor_67 ?_
        refine r_dup E dX11_factor_68 rfl ?_
        refine r_get (v := .int (zI (I_64 13))) E h h_mo rfl inn_X11_factor_11 13 (by decide) fl_X11_factor_113 rfl dX11_factor_69 ?_
        refine r_iconst E dX11_factor_72 ?_
        refine r_isub E dX11_factor_73 ?_
        refine r_put E h h_mo rfl inn_X11_factor_11 13 (by decide) fl_X11_factor_113 tyX11 tyX11_ok nmX11 rfl rfl rfl (Nat.le_of_ble_eq_true rfl) dX11_factor_74 (fun ws H locs h hu => ?_)
        have h_mo : ws[b]? = some (aM, mO (va_up I_64 13 ((I_64 13) - 1)) ad) := hu.1
        have h_bu := hu.keep h_bu (by omega)
        have h_dr := hu.keep h_dr (by omega)
        have hE := hE.tr (hu.eqx (by first | omega | (dsimp only <;> omega)))
        exact r_vret E h ⟨_, _, h_mo, h_dr, ⟨by
  rw [show pP bu L (f9 + 1) 0 (I 13) S = pexp bu L 41 (pP bu L f9 3 (va_up (va_up I_9 4 ((I_9 4) + 1)) 13 ((I_9 13) + 1) 13) (((0, S.2.1, sk bu L (S.2.2.1 + 1), S.2.2.2) : PSt))) from (by rw [pF_par h0 (by omega) (by omega), e13, q13])]
  exact hR.cg (by simp [va_up]) (by simp [va_up]) (by simp [va_up]) (by simp [va_up]), fun k q4 q5 q6 => by
  by_cases k13 : k = 13
  · subst k13
    have y1 := g_64 13 (by decide) (by decide) (by decide)
    have y2 := g_58 13 (by decide) (by decide) (by decide)
    simp [va_up]
    omega
  · simp [va_up, k13]
    rw [g_64 k q4 q5 q6, g_58 k q4 q5 q6, ek k q4 k13]
    exact gk k q4 q5 q6⟩, hE⟩ dX11_factor_77
      · skip
        refine r_aload_n E 1 hl rfl dX11_factor_27 ?_
        refine r_bipush E dX11_factor_28 (by decide) ?_
        refine r_aload_n E 1 hl rfl dX11_factor_30 ?_
        refine r_get (v := .int (zI (I_9 4))) E h h_mo rfl inn_X11_factor_11 4 (by decide) fl_X11_factor_66 rfl dX11_factor_31 ?_
        refine r_callVV E h (As := [.int (zI (-5)), .int (zI (I_9 4))]) (rest := []) (k_X11_report l (-5) (I_9 4) h_mo hR.2.2.1) h_mo rfl gX11_factor_X11_report rfl hd_X11_report (by first | decide | (constructor <;> dsimp only <;> omega)) ⟨Nat.le_of_ble_eq_true rfl, Nat.le_of_ble_eq_true rfl⟩ hl.1 rfl (Nat.le_of_ble_eq_true rfl) dX11_factor_34 rfl (fun ws H locs hp h => ?_)
        obtain ⟨I_34, h_mo, ⟨e_34, g_34⟩, hf⟩ := hp
        have h_bu := hf.at h_bu (by first | omega | (dsimp only <;> omega))
        have h_dr := hf.at h_dr (by first | omega | (dsimp only <;> omega))
        have hE := hE.tr (hf.wk (fun j hj => by first | omega | (dsimp only at hj ⊢ <;> omega)))
        have q34 := g_34 4 (by decide) (by decide)
        have hR : PR bu L I_34 dr ((-5, S.2.2.1, S.2.2.1, S.2.2.2) : PSt) := hR.err (g_34 3 (by decide) (by decide)) (by rw [q34]; exact hR.2.1) (by have := hR.2.2.2.1.1; omega) (by have := hR.2.2.2.1.1; omega) (by decide)
        have gk : ∀ k : Nat, k ≠ 4 → k ≠ 5 → k ≠ 6 → I_34 k = I k := fun k q4 q5 q6 => (g_34 k q5 q6).trans (gk k q4 q5 q6)
        refine r_aload_n E 1 hl rfl dX11_factor_37 ?_
        refine r_dup E dX11_factor_38 rfl ?_
        refine r_get (v := .int (zI (I_34 4))) E h h_mo rfl inn_X11_factor_11 4 (by decide) fl_X11_factor_66 rfl dX11_factor_39 ?_
        refine r_iconst E dX11_factor_42 ?_
        refine r_iadd E dX11_factor_43 ?_
        refine r_put E h h_mo rfl inn_X11_factor_11 4 (by decide) fl_X11_factor_66 tyX11 tyX11_ok nmX11 rfl rfl rfl (Nat.le_of_ble_eq_true rfl) dX11_factor_44 (fun ws H locs h hu => ?_)
        have h_mo : ws[b]? = some (aM, mO (va_up I_34 4 ((I_34 4) + 1)) ad) := hu.1
        have h_bu := hu.keep h_bu (by omega)
        have h_dr := hu.keep h_dr (by omega)
        have hE := hE.tr (hu.eqx (by first | omega | (dsimp only <;> omega)))
        refine r_aload_n E 1 hl rfl dX11_factor_47 ?_
        refine r_dup E dX11_factor_48 rfl ?_
        refine r_get (v := .int (zI (I_34 13))) E h h_mo rfl inn_X11_factor_11 13 (by decide) fl_X11_factor_113 rfl dX11_factor_49 ?_
        refine r_iconst E dX11_factor_52 ?_
        refine r_iadd E dX11_factor_53 ?_
        refine r_put E h h_mo rfl inn_X11_factor_11 13 (by decide) fl_X11_factor_113 tyX11 tyX11_ok nmX11 rfl rfl rfl (Nat.le_of_ble_eq_true rfl) dX11_factor_54 (fun ws H locs h hu => ?_)
        have h_mo : ws[b]? = some (aM, mO (va_up (va_up I_34 4 ((I_34 4) + 1)) 13 ((I_34 13) + 1)) ad) := hu.1
        have h_bu := hu.keep h_bu (by omega)
        have h_dr := hu.keep h_dr (by omega)
        have hE := hE.tr (hu.eqx (by first | omega | (dsimp only <;> omega)))
        have q13 := gk 13 (by decide) (by decide) (by decide)
        have e4 : (va_up (va_up I_34 4 ((I_34 4) + 1)) 13 ((I_34 13) + 1)) 4 = I_34 4 + 1 := by simp [va_up]
        have e13 : (va_up (va_up I_34 4 ((I_34 4) + 1)) 13 ((I_34 13) + 1)) 13 = I_34 13 + 1 := by simp [va_up]
        have ek : ∀ k : Nat, k ≠ 4 → k ≠ 13 → (va_up (va_up I_34 4 ((I_34 4) + 1)) 13 ((I_34 13) + 1)) k = I_34 k := fun k k1 k2 => by simp [va_up, k1, k2]
        have hR : PR bu L (va_up (va_up I_34 4 ((I_34 4) + 1)) 13 ((I_34 13) + 1)) dr ((-5, S.2.2.1, S.2.2.1, S.2.2.2) : PSt) := hR.err (ek 3 (by decide) (by decide)) (by rw [e4, q34]; omega) (by rw [ek 5 (by decide) (by decide)]; exact hR.2.2.2.1.1) (by rw [ek 6 (by decide) (by decide)]; exact hR.2.2.2.1.2) (by decide)
        have hG2 : PG L ((-5, S.2.2.1, S.2.2.1, S.2.2.2) : PSt) := (PL.err (S := S) (m := 0) (a := 0) (by decide)).1
        have hbad : ((-5, S.2.2.1, S.2.2.1, S.2.2.2) : PSt).1 ≠ 0 := by show (-5 : Int) ≠ 0; decide
        refine r_aload_n E 1 hl rfl dX11_factor_57 ?_
        refine r_callVsV E hX h (As := []) (rest := []) (hS n rfl (f := f9) h_mo h_bu h_dr htx hR hG2 (by omega) (fun _ => hbad) (fun hh => absurd hh hbad) (fun hh => absurd hh hbad)) h_mo rfl gX11_factor_X11_sum rfl hd_X11_sum (by first | decide | (constructor <;> dsimp only <;> omega)) ⟨Nat.le_of_ble_eq_true rfl, Nat.le_of_ble_eq_true rfl⟩ hl.1 rfl (Nat.le_of_ble_eq_true rfl) dX11_factor_58 rfl (fun ws H locs hp h => ?_)
        obtain ⟨I_58, dr_58, h_mo, h_dr, ⟨hR, g_58⟩, hf⟩ := hp
        have h_bu := hf.at h_bu (by first | omega | (dsimp only <;> omega))
        have hE := hE.tr (hf.wk (fun j hj => by first | omega | (dsimp only at hj ⊢ <;> omega)))
        refine r_aload_n E 1 hl rfl dX11_factor_61 ?_
        refine r_bipush E dX11_factor_62 (by decide) ?_
        refine r_callVV E h (As := [.int (zI 41)]) (rest := []) (k_X11_expect l 41 h_mo h_bu htx hR.hL hR.hp hR.2.2.1 (by omega)) h_mo rfl gX11_factor_X11_expect rfl hd_X11_expect (by first | decide | (constructor <;> dsimp only <;> omega)) ⟨Nat.le_of_ble_eq_true rfl, Nat.le_of_ble_eq_true rfl⟩ hl.1 rfl (Nat.le_of_ble_eq_true rfl) dX11_factor_64 rfl (fun ws H locs hp h => ?_)
        obtain ⟨I_64, h_mo, ⟨e_64, g_64⟩, hf⟩ := hp
        have h_bu := hf.at h_bu (by first | omega | (dsimp only <;> omega))
        have h_dr := hf.at h_dr (by first | omega | (dsimp only <;> omega))
        have hE := hE.tr (hf.wk (fun j hj => by first | omega | (dsimp only at hj ⊢ <;> omega)))
        have hR : PR bu L I_64 dr_58 (pexp bu L 41 (pP bu L f9 3 (va_up (va_up I_34 4 ((I_34 4) + 1)) 13 ((I_34 13) + 1) 13) (((-5, S.2.2.1, S.2.2.1, S.2.2.2) : PSt)))) := hR.exp (by decide) e_64 g_64
        refine r_aload_n E 1 hl rfl dX11_factor_67 ?_
        refine r_dup E dX11_factor_68 rfl ?_
        refine r_get (v := .int (zI (I_64 13))) E h h_mo rfl inn_X11_factor_11 13 (by decide) fl_X11_factor_113 rfl dX11_factor_69 ?_
        refine r_iconst E dX11_factor_72 ?_
        refine r_isub E dX11_factor_73 ?_
        refine r_put E h h_mo rfl inn_X11_factor_11 13 (by decide) fl_X11_factor_113 tyX11 tyX11_ok nmX11 rfl rfl rfl (Nat.le_of_ble_eq_true rfl) dX11_factor_74 (fun ws H locs h hu => ?_)
        have h_mo : ws[b]? = some (aM, mO (va_up I_64 13 ((I_64 13) - 1)) ad) := hu.1
        have h_bu := hu.keep h_bu (by omega)
        have h_dr := hu.keep h_dr (by omega)
        have hE := hE.tr (hu.eqx (by first | omega | (dsimp only <;> omega)))
        exact r_vret E h ⟨_, _, h_mo, h_dr, ⟨by
  rw [show pP bu L (f9 + 1) 0 (I 13) S = pexp bu L 41 (pP bu L f9 3 (va_up (va_up I_34 4 ((I_34 4) + 1)) 13 ((I_34 13) + 1) 13) (((-5, S.2.2.1, S.2.2.1, S.2.2.2) : PSt))) from (by rw [pF_deep h0 (by omega) (by omega), pexp_bad (by rw [pP_bad _ _ _ _ hbad]; exact hbad), pP_bad _ _ _ _ hbad])]
  exact hR.cg (by simp [va_up]) (by simp [va_up]) (by simp [va_up]) (by simp [va_up]), fun k q4 q5 q6 => by
  by_cases k13 : k = 13
  · subst k13
    have y1 := g_64 13 (by decide) (by decide) (by decide)
    have y2 := g_58 13 (by decide) (by decide) (by decide)
    simp [va_up]
    omega
  · simp [va_up, k13]
    rw [g_64 k q4 q5 q6, g_58 k q4 q5 q6, ek k q4 k13]
    exact gk k q4 q5 q6⟩, hE⟩ dX11_factor_77
  · skip
    exact r_vret E h ⟨I, dr, h_mo, h_dr, ⟨by rw [pP_bad _ _ _ _ (by have := hR.2.2.2.1.1; omega)]; exact hR, fun _ _ _ _ => rfl⟩, hE⟩ dX11_factor_7
theorem fl_X11_term_66 : Cond.fieldLink RX11 66 (TX11 4).1 (TX11 4).2.1 (TX11 4).2.2.1 ∈ wsX11_term := List.mem_of_getElem? (i := 1) rfl
theorem inn_X11_term_11 : ∀ w ∈ wsX110, w ∈ wsX11_term := fun _ h => List.mem_cons_of_mem _ (List.mem_append_right _ h)
set_option maxHeartbeats 4000000 in
set_option maxRecDepth 100000 in
theorem k_X11_term (l : Launch) {G : va_G} {cy : Nat → ClassId} {ws0 : va_W} {b aM : Nat} {I : Nat → Int} {ad : Nat → Nat} {bu : Int → Int} {dr : Int → Int} {L : Int} {S : PSt} {f : Nat} (n : Nat) (h_mo : ws0[b]? = some (aM, mO I ad)) (h_bu : ws0[b + 1]? = some (ad 1, aI cy 600 bu)) (h_dr : ws0[b + 3]? = some (ad 9, aI cy 1111 dr)) (hS : PCon l G cy yX11_factor wsX11_factor (rmF n) 0 n) (htx : TXok bu) (hR : PR bu L I dr S) (hG : PG L S) (hn0 : 0 ≤ I 13 ∧ I 13 + n = 5) (hz : n = 0 → S.1 ≠ 0) (hB : S.1 = 0 → 2 * S.2.2.2 4 + 1 ≤ 3 * S.2.2.1) (hF : S.1 = 0 → 6 * (L - S.2.2.1) + 3 < f) : MVs l yX11_term wsX11_term (rmT n) G cy [.ref aM] ws0 (PQ cy ws0 b aM I ad bu L (pP bu L f 1 (I 13) S)) := by
  refine MVs.of (own := RX11) (cc := cX11_term) (nL := 2) (ret := none) (by decide) rfl rfl (Nat.le_of_ble_eq_true rfl) ?_
  intro p e s m below meth c A ls hX E h hl
  have hl : lv_has ls 2 [(0, .ref aM)] := hl
  have hE : Eqx ws0 ws0 (fun j => j = b ∨ j = b + 3) := Eqx.rf
  have gk : ∀ k : Nat, k ≠ 4 → k ≠ 5 → k ≠ 6 → I k = I k := fun _ _ _ _ => rfl
  have hgp := hG.2
  obtain ⟨f9, hf8, hf9⟩ := pT_sp (t := bu) (L := L) (f := f) (dl := I 13) (S := S)
  skip
  refine r_aload_n E 0 hl rfl dX11_term_0 ?_
  refine r_callVsV E hX h (As := []) (rest := []) (hS (f := f9) h_mo h_bu h_dr htx hR hG hn0 hz hB (fun h0 => by have := hF h0; have := hf9; simp only [pw]; omega)) h_mo rfl gX11_term_X11_factor rfl hd_X11_factor (by first | decide | (constructor <;> dsimp only <;> omega)) ⟨Nat.le_of_ble_eq_true rfl, Nat.le_of_ble_eq_true rfl⟩ hl.1 rfl (Nat.le_of_ble_eq_true rfl) dX11_term_1 rfl (fun ws H locs hp h => ?_)
  obtain ⟨I_1, dr_1, h_mo, h_dr, ⟨hR, gk⟩, hf⟩ := hp
  have h_bu := hf.at h_bu (by first | omega | (dsimp only <;> omega))
  have hs1 := pP_PL (t := bu) f9 0 (I 13) S hG (fun h0 => by have := hF h0; have := hf9; show 6 * (L - S.2.2.1) + 1 < _; omega) (by decide)
  have hE := hE.tr (hf.wk (fun j hj => by first | omega | (dsimp only at hj ⊢ <;> omega)))
  refine r_loop (fun n H locs ls => ∃ (ws : va_W) (f2 : Nat) (S2 : PSt) (I3 : Nat → Int) (dr3 : Int → Int), n = ((f2 : Int)).toNat ∧ (PR bu L I3 dr3 S2) ∧ (PG L S2) ∧ (S2.1 = 0 → 2 * S2.2.2.2 4 + 0 ≤ 3 * S2.2.2.1) ∧ (pP bu L f2 2 (I 13) S2 = pP bu L f 1 (I 13) S) ∧ (S2.1 = 0 → 6 * (L - S2.2.2.1) + 2 < f2) ∧ (∀ k : Nat, k ≠ 4 → k ≠ 5 → k ≠ 6 → I3 k = I k) ∧ (S2.1 = 0 → S.1 = 0) ∧ Hp G ws A s.heap H locs ∧ (ws[b]? = some (aM, mO I3 ad)) ∧ (ws[b + 1]? = some (ad 1, aI cy 600 bu)) ∧ (ws[b + 3]? = some (ad 9, aI cy 1111 dr3)) ∧ Eqx ws0 ws (fun j => j = b ∨ j = b + 3) ∧ lv_has ls 2 [(0, .ref aM)]) _ ⟨ws, f9, (pP bu L f9 0 (I 13) S), I_1, dr_1, rfl, hR, hs1.1, (fun hh => by have h1 := hs1.2 hh; have h2 := hB h1.1; simp [pc] at h1; omega), hf8.symm, (fun hh => by have h1 := hs1.2 hh; have h2 := hF h1.1; simp [pc] at h1; omega), gk, (fun hh => (hs1.2 hh).1), h, h_mo, h_bu, h_dr, hE, lv_sub hl [0] rfl⟩ ?_
  rintro n H locs ls ⟨ws, f2, S2, I3, dr3, hn, hR, hG2, hB2, hfin, hf2, gk, hSb, h, h_mo, h_bu, h_dr, hE, hl⟩ ih_4
  skip
  refine r_aload_n E 0 hl rfl dX11_term_4 ?_
  refine r_callVI E h (As := []) (rest := []) (k_X11_isGood l h_mo hR.2.2.1) h_mo rfl gX11_term_X11_isGood rfl hd_X11_isGood (by first | decide | (constructor <;> dsimp only <;> omega)) ⟨Nat.le_of_ble_eq_true rfl, Nat.le_of_ble_eq_true rfl⟩ hl.1 rfl (Nat.le_of_ble_eq_true rfl) dX11_term_5 rfl (fun z_5 ws H locs hp h => ?_)
  obtain ⟨e_z_5, rfl⟩ := hp
  have hR5 := hR.2.2.1
  refine r_if_eq E 74 dX11_term_8 (by decide) (by omega) (fun c_8 => ?_) (fun c_8 => ?_)
  · skip
    exact r_vret E h ⟨_, _, h_mo, h_dr, ⟨by
  rw [show pP bu L f 1 (I 13) S = S2 from (by
    rw [← hfin]
    exact (pP_bad _ _ _ _ (by have := hR.2.2.2.1.1; omega)))]
  exact hR, gk⟩, hE⟩ dX11_term_74
  · skip
    have h0 : S2.1 = 0 := by have := hR.2.2.2.1.1; omega
    have hgp2 := (hG2.2 h0).1
    have hF2 := hf2 h0
    have hB9 := hB2 h0
    obtain ⟨f8, rfl⟩ : ∃ k, f2 = k + 1 := ⟨f2 - 1, by omega⟩
    refine r_aload_n E 0 hl rfl dX11_term_11 ?_
    refine r_callVI E h (As := []) (rest := []) (k_X11_next l h_mo h_bu htx hR.hL hR.hp) h_mo rfl gX11_term_X11_next rfl hd_X11_next (by first | decide | (constructor <;> dsimp only <;> omega)) ⟨Nat.le_of_ble_eq_true rfl, Nat.le_of_ble_eq_true rfl⟩ hl.1 rfl (Nat.le_of_ble_eq_true rfl) dX11_term_12 rfl (fun z_12 ws H locs hp h => ?_)
    obtain ⟨e_12, I_12, h_mo, ⟨f_12, g_12⟩, hf⟩ := hp
    have h_bu := hf.at h_bu (by first | omega | (dsimp only <;> omega))
    have h_dr := hf.at h_dr (by first | omega | (dsimp only <;> omega))
    have hE := hE.tr (hf.wk (fun j hj => by first | omega | (dsimp only at hj ⊢ <;> omega)))
    have b_12 : z_12 = byA bu L (S2).2.2.1 := hR.by h0 e_12
    have at4 : I_12 4 = (S2).2.2.1 := hR.at4 h0 f_12
    have hR : PR bu L I_12 dr3 S2 := hR.mv f_12 g_12
    have gk : ∀ k : Nat, k ≠ 4 → k ≠ 5 → k ≠ 6 → I_12 k = I k := fun k q4 q5 q6 => (g_12 k q4).trans (gk k q4 q5 q6)
    have hbr := byA_rng htx (L := L) (p := S2.2.2.1)
    refine r_bipush E dX11_term_15 (by decide) ?_
    refine r_icmp_eq E 29 dX11_term_17 (by decide) (by omega) (fun c_17 => ?_) (fun c_17 => ?_)
    · skip
      skip
      have hlt : S2.2.2.1 < L := byA_in (t := bu) (by omega)
      refine r_aload_n E 0 hl rfl dX11_term_29 ?_
      refine r_callVI E h (As := []) (rest := []) (k_X11_next l h_mo h_bu htx hR.hL hR.hp) h_mo rfl gX11_term_X11_next rfl hd_X11_next (by first | decide | (constructor <;> dsimp only <;> omega)) ⟨Nat.le_of_ble_eq_true rfl, Nat.le_of_ble_eq_true rfl⟩ hl.1 rfl (Nat.le_of_ble_eq_true rfl) dX11_term_30 rfl (fun z_30 ws H locs hp h => ?_)
      obtain ⟨e_30, I_30, h_mo, ⟨f_30, g_30⟩, hf⟩ := hp
      have h_bu := hf.at h_bu (by first | omega | (dsimp only <;> omega))
      have h_dr := hf.at h_dr (by first | omega | (dsimp only <;> omega))
      have hE := hE.tr (hf.wk (fun j hj => by first | omega | (dsimp only at hj ⊢ <;> omega)))
      have b_30 : z_30 = byA bu L (S2).2.2.1 := hR.by h0 e_30
      have at4 : I_30 4 = (S2).2.2.1 := hR.at4 h0 f_30
      have hR : PR bu L I_30 dr3 S2 := hR.mv f_30 g_30
      have gk : ∀ k : Nat, k ≠ 4 → k ≠ 5 → k ≠ 6 → I_30 k = I k := fun k q4 q5 q6 => (g_30 k q4).trans (gk k q4 q5 q6)
      refine r_bipush E dX11_term_33 (by decide) ?_
      refine r_icmp_ne E 42 dX11_term_35 (by decide) (by omega) (fun c_35 => ?_) (fun c_35 => ?_)
      · skip
        exfalso; omega
      · skip
        refine r_iconst E dX11_term_38 ?_
        refine r_goto E 43 dX11_term_39 (by decide) ?_
        refine r_istore_n (lv' := [(1, .int (zI 1)), (0, .ref aM)]) E hl dX11_term_43 rfl (by decide) rfl (fun ls hl => ?_)
        refine r_aload_n E 1 hl rfl dX11_term_44 ?_
        refine r_dup E dX11_term_45 rfl ?_
        refine r_get (v := .int (zI (I_30 4))) E h h_mo rfl inn_X11_term_11 4 (by decide) fl_X11_term_66 rfl dX11_term_46 ?_
        refine r_iconst E dX11_term_49 ?_
        refine r_iadd E dX11_term_50 ?_
        refine r_put E h h_mo rfl inn_X11_term_11 4 (by decide) fl_X11_term_66 tyX11 tyX11_ok nmX11 rfl rfl rfl (Nat.le_of_ble_eq_true rfl) dX11_term_51 (fun ws H locs h hu => ?_)
        have h_mo : ws[b]? = some (aM, mO (va_up I_30 4 ((I_30 4) + 1)) ad) := hu.1
        have h_bu := hu.keep h_bu (by omega)
        have h_dr := hu.keep h_dr (by omega)
        have hE := hE.tr (hu.eqx (by first | omega | (dsimp only <;> omega)))
        skip
        have e4 : (va_up I_30 4 ((I_30 4) + 1)) 4 = I_30 4 + 1 := by simp [va_up]
        have ek : ∀ k : Nat, k ≠ 4 → (va_up I_30 4 ((I_30 4) + 1)) k = I_30 k := fun k k1 => by simp [va_up, k1]
        have q13 := gk 13 (by decide) (by decide) (by decide)
        have e13 := ek 13 (by decide)
        have hby := byte_PL (t := bu) hG2 h0 (c := z_12) (by omega) (by omega)
        have hR : PR bu L (va_up I_30 4 ((I_30 4) + 1)) dr3 ((0, S2.2.1, sk bu L (S2.2.2.1 + 1), S2.2.2.2) : PSt) := hR.step h0 at4 (by omega) (ek 3 (by decide)) e4 (ek 5 (by decide)) (ek 6 (by decide))
        refine r_aload_n E 1 hl rfl dX11_term_54 ?_
        refine r_callVsV E hX h (As := []) (rest := []) (hS (f := f8) h_mo h_bu h_dr htx hR hby.1 (by omega) (fun h9 => absurd (hSb h0) (hz h9)) (fun _ => by have h7 := hby.2 rfl; dsimp only at h7 ⊢; omega) (fun _ => by have h7 := hby.2 rfl; dsimp only at h7; show 6 * (L - sk bu L (S2.2.2.1 + 1)) + 1 < _; omega)) h_mo rfl gX11_term_X11_factor rfl hd_X11_factor (by first | decide | (constructor <;> dsimp only <;> omega)) ⟨Nat.le_of_ble_eq_true rfl, Nat.le_of_ble_eq_true rfl⟩ hl.1 rfl (Nat.le_of_ble_eq_true rfl) dX11_term_55 rfl (fun ws H locs hp h => ?_)
        obtain ⟨I_55, dr_55, h_mo, h_dr, ⟨hR, g_55⟩, hf⟩ := hp
        have h_bu := hf.at h_bu (by first | omega | (dsimp only <;> omega))
        have hE := hE.tr (hf.wk (fun j hj => by first | omega | (dsimp only at hj ⊢ <;> omega)))
        have hs := pP_PL (t := bu) f8 0 ((va_up I_30 4 ((I_30 4) + 1)) 13) _ hby.1 (fun _ => by have h7 := hby.2 rfl; dsimp only at h7; show 6 * (L - sk bu L (S2.2.2.1 + 1)) + 1 < _; omega) (by decide)
        have h4 := (hby.tr hs).e4 hR hB2 (by decide)
        have gk : ∀ k : Nat, k ≠ 4 → k ≠ 5 → k ≠ 6 → I_55 k = I k := fun k q4 q5 q6 => by rw [g_55 k q4 q5 q6, ek k q4]; exact gk k q4 q5 q6
        refine r_aload_n E 1 hl rfl dX11_term_58 ?_
        refine r_iload_n E 0 hl rfl dX11_term_59 ?_
        refine r_if_eq E 67 dX11_term_60 (by decide) (by omega) (fun c_60 => ?_) (fun c_60 => ?_)
        · skip
          exfalso; omega
        · skip
          skip
          refine r_iconst E dX11_term_63 ?_
          refine r_goto E 68 dX11_term_64 (by decide) ?_
          refine r_callVV E h (As := [.int (zI 4)]) (rest := []) (k_X11_emit l 4 h_mo h_dr hR.2.2.1 h4) h_mo rfl gX11_term_X11_emit rfl hd_X11_emit (by first | decide | (constructor <;> dsimp only <;> omega)) ⟨Nat.le_of_ble_eq_true rfl, Nat.le_of_ble_eq_true rfl⟩ hl.1 rfl (Nat.le_of_ble_eq_true rfl) dX11_term_68 rfl (fun ws H locs hp h => ?_)
          obtain ⟨dr_68, h_dr, e_68, hf⟩ := hp
          have h_mo := hf.at h_mo (by first | omega | (dsimp only <;> omega))
          have h_bu := hf.at h_bu (by first | omega | (dsimp only <;> omega))
          have hE := hE.tr (hf.wk (fun j hj => by first | omega | (dsimp only at hj ⊢ <;> omega)))
          have hR : PR bu L I_55 dr_68 (pemit 4 (pP bu L f8 0 ((va_up I_30 4 ((I_30 4) + 1)) 13) (((0, S2.2.1, sk bu L (S2.2.2.1 + 1), S2.2.2.2) : PSt)))) := hR.emit e_68
          have hP := (hby.tr hs).tr (pemit_PL hs.1 4)
          refine r_goto E 4 dX11_term_71 (by decide) ?_
          exact ih_4 _ H locs ls (by omega) ⟨ws, f8, (pemit 4 (pP bu L f8 0 ((va_up I_30 4 ((I_30 4) + 1)) 13) (((0, S2.2.1, sk bu L (S2.2.2.1 + 1), S2.2.2.2) : PSt)))), I_55, dr_68, rfl, hR, hP.1, (fun hh => by have h1 := hP.2 hh; have h2 := hB2 h0; simp [pc] at h1; omega), (by
      rw [e13, q13]
      rw [pT_a h0 (by omega)] at hfin
      exact hfin), (fun hh => by have h1 := hP.2 hh; have h2 := hf2 h0; simp [pc] at h1; omega), gk, (fun _ => hSb h0), h, h_mo, h_bu, h_dr, hE, lv_sub hl [1] rfl⟩
    · skip
      refine r_aload_n E 0 hl rfl dX11_term_20 ?_
      refine r_callVI E h (As := []) (rest := []) (k_X11_next l h_mo h_bu htx hR.hL hR.hp) h_mo rfl gX11_term_X11_next rfl hd_X11_next (by first | decide | (constructor <;> dsimp only <;> omega)) ⟨Nat.le_of_ble_eq_true rfl, Nat.le_of_ble_eq_true rfl⟩ hl.1 rfl (Nat.le_of_ble_eq_true rfl) dX11_term_21 rfl (fun z_21 ws H locs hp h => ?_)
      obtain ⟨e_21, I_21, h_mo, ⟨f_21, g_21⟩, hf⟩ := hp
      have h_bu := hf.at h_bu (by first | omega | (dsimp only <;> omega))
      have h_dr := hf.at h_dr (by first | omega | (dsimp only <;> omega))
      have hE := hE.tr (hf.wk (fun j hj => by first | omega | (dsimp only at hj ⊢ <;> omega)))
      have b_21 : z_21 = byA bu L (S2).2.2.1 := hR.by h0 e_21
      have at4 : I_21 4 = (S2).2.2.1 := hR.at4 h0 f_21
      have hR : PR bu L I_21 dr3 S2 := hR.mv f_21 g_21
      have gk : ∀ k : Nat, k ≠ 4 → k ≠ 5 → k ≠ 6 → I_21 k = I k := fun k q4 q5 q6 => (g_21 k q4).trans (gk k q4 q5 q6)
      refine r_bipush E dX11_term_24 (by decide) ?_
      refine r_icmp_ne E 74 dX11_term_26 (by decide) (by omega) (fun c_26 => ?_) (fun c_26 => ?_)
      · skip
        exact r_vret E h ⟨_, _, h_mo, h_dr, ⟨by
  rw [show pP bu L f 1 (I 13) S = S2 from (by
    rw [← hfin]
    exact (pT_n h0 (by omega) (by omega)))]
  exact hR, gk⟩, hE⟩ dX11_term_74
      · skip
        skip
        have hlt : S2.2.2.1 < L := byA_in (t := bu) (by omega)
        refine r_aload_n E 0 hl rfl dX11_term_29 ?_
        refine r_callVI E h (As := []) (rest := []) (k_X11_next l h_mo h_bu htx hR.hL hR.hp) h_mo rfl gX11_term_X11_next rfl hd_X11_next (by first | decide | (constructor <;> dsimp only <;> omega)) ⟨Nat.le_of_ble_eq_true rfl, Nat.le_of_ble_eq_true rfl⟩ hl.1 rfl (Nat.le_of_ble_eq_true rfl) dX11_term_30 rfl (fun z_30 ws H locs hp h => ?_)
        obtain ⟨e_30, I_30, h_mo, ⟨f_30, g_30⟩, hf⟩ := hp
        have h_bu := hf.at h_bu (by first | omega | (dsimp only <;> omega))
        have h_dr := hf.at h_dr (by first | omega | (dsimp only <;> omega))
        have hE := hE.tr (hf.wk (fun j hj => by first | omega | (dsimp only at hj ⊢ <;> omega)))
        have b_30 : z_30 = byA bu L (S2).2.2.1 := hR.by h0 e_30
        have at4 : I_30 4 = (S2).2.2.1 := hR.at4 h0 f_30
        have hR : PR bu L I_30 dr3 S2 := hR.mv f_30 g_30
        have gk : ∀ k : Nat, k ≠ 4 → k ≠ 5 → k ≠ 6 → I_30 k = I k := fun k q4 q5 q6 => (g_30 k q4).trans (gk k q4 q5 q6)
        refine r_bipush E dX11_term_33 (by decide) ?_
        refine r_icmp_ne E 42 dX11_term_35 (by decide) (by omega) (fun c_35 => ?_) (fun c_35 => ?_)
        · skip
          refine r_iconst E dX11_term_42 ?_
          refine r_istore_n (lv' := [(1, .int (zI 0)), (0, .ref aM)]) E hl dX11_term_43 rfl (by decide) rfl (fun ls hl => ?_)
          refine r_aload_n E 1 hl rfl dX11_term_44 ?_
          refine r_dup E dX11_term_45 rfl ?_
          refine r_get (v := .int (zI (I_30 4))) E h h_mo rfl inn_X11_term_11 4 (by decide) fl_X11_term_66 rfl dX11_term_46 ?_
          refine r_iconst E dX11_term_49 ?_
          refine r_iadd E dX11_term_50 ?_
          refine r_put E h h_mo rfl inn_X11_term_11 4 (by decide) fl_X11_term_66 tyX11 tyX11_ok nmX11 rfl rfl rfl (Nat.le_of_ble_eq_true rfl) dX11_term_51 (fun ws H locs h hu => ?_)
          have h_mo : ws[b]? = some (aM, mO (va_up I_30 4 ((I_30 4) + 1)) ad) := hu.1
          have h_bu := hu.keep h_bu (by omega)
          have h_dr := hu.keep h_dr (by omega)
          have hE := hE.tr (hu.eqx (by first | omega | (dsimp only <;> omega)))
          skip
          have e4 : (va_up I_30 4 ((I_30 4) + 1)) 4 = I_30 4 + 1 := by simp [va_up]
          have ek : ∀ k : Nat, k ≠ 4 → (va_up I_30 4 ((I_30 4) + 1)) k = I_30 k := fun k k1 => by simp [va_up, k1]
          have q13 := gk 13 (by decide) (by decide) (by decide)
          have e13 := ek 13 (by decide)
          have hby := byte_PL (t := bu) hG2 h0 (c := z_12) (by omega) (by omega)
          have hR : PR bu L (va_up I_30 4 ((I_30 4) + 1)) dr3 ((0, S2.2.1, sk bu L (S2.2.2.1 + 1), S2.2.2.2) : PSt) := hR.step h0 at4 (by omega) (ek 3 (by decide)) e4 (ek 5 (by decide)) (ek 6 (by decide))
          refine r_aload_n E 1 hl rfl dX11_term_54 ?_
          refine r_callVsV E hX h (As := []) (rest := []) (hS (f := f8) h_mo h_bu h_dr htx hR hby.1 (by omega) (fun h9 => absurd (hSb h0) (hz h9)) (fun _ => by have h7 := hby.2 rfl; dsimp only at h7 ⊢; omega) (fun _ => by have h7 := hby.2 rfl; dsimp only at h7; show 6 * (L - sk bu L (S2.2.2.1 + 1)) + 1 < _; omega)) h_mo rfl gX11_term_X11_factor rfl hd_X11_factor (by first | decide | (constructor <;> dsimp only <;> omega)) ⟨Nat.le_of_ble_eq_true rfl, Nat.le_of_ble_eq_true rfl⟩ hl.1 rfl (Nat.le_of_ble_eq_true rfl) dX11_term_55 rfl (fun ws H locs hp h => ?_)
          obtain ⟨I_55, dr_55, h_mo, h_dr, ⟨hR, g_55⟩, hf⟩ := hp
          have h_bu := hf.at h_bu (by first | omega | (dsimp only <;> omega))
          have hE := hE.tr (hf.wk (fun j hj => by first | omega | (dsimp only at hj ⊢ <;> omega)))
          have hs := pP_PL (t := bu) f8 0 ((va_up I_30 4 ((I_30 4) + 1)) 13) _ hby.1 (fun _ => by have h7 := hby.2 rfl; dsimp only at h7; show 6 * (L - sk bu L (S2.2.2.1 + 1)) + 1 < _; omega) (by decide)
          have h4 := (hby.tr hs).e4 hR hB2 (by decide)
          have gk : ∀ k : Nat, k ≠ 4 → k ≠ 5 → k ≠ 6 → I_55 k = I k := fun k q4 q5 q6 => by rw [g_55 k q4 q5 q6, ek k q4]; exact gk k q4 q5 q6
          refine r_aload_n E 1 hl rfl dX11_term_58 ?_
          refine r_iload_n E 0 hl rfl dX11_term_59 ?_
          refine r_if_eq E 67 dX11_term_60 (by decide) (by omega) (fun c_60 => ?_) (fun c_60 => ?_)
          · skip
            skip
            refine r_iconst E dX11_term_67 ?_
            refine r_callVV E h (As := [.int (zI 5)]) (rest := []) (k_X11_emit l 5 h_mo h_dr hR.2.2.1 h4) h_mo rfl gX11_term_X11_emit rfl hd_X11_emit (by first | decide | (constructor <;> dsimp only <;> omega)) ⟨Nat.le_of_ble_eq_true rfl, Nat.le_of_ble_eq_true rfl⟩ hl.1 rfl (Nat.le_of_ble_eq_true rfl) dX11_term_68 rfl (fun ws H locs hp h => ?_)
            obtain ⟨dr_68, h_dr, e_68, hf⟩ := hp
            have h_mo := hf.at h_mo (by first | omega | (dsimp only <;> omega))
            have h_bu := hf.at h_bu (by first | omega | (dsimp only <;> omega))
            have hE := hE.tr (hf.wk (fun j hj => by first | omega | (dsimp only at hj ⊢ <;> omega)))
            have hR : PR bu L I_55 dr_68 (pemit 5 (pP bu L f8 0 ((va_up I_30 4 ((I_30 4) + 1)) 13) (((0, S2.2.1, sk bu L (S2.2.2.1 + 1), S2.2.2.2) : PSt)))) := hR.emit e_68
            have hP := (hby.tr hs).tr (pemit_PL hs.1 5)
            refine r_goto E 4 dX11_term_71 (by decide) ?_
            exact ih_4 _ H locs ls (by omega) ⟨ws, f8, (pemit 5 (pP bu L f8 0 ((va_up I_30 4 ((I_30 4) + 1)) 13) (((0, S2.2.1, sk bu L (S2.2.2.1 + 1), S2.2.2.2) : PSt)))), I_55, dr_68, rfl, hR, hP.1, (fun hh => by have h1 := hP.2 hh; have h2 := hB2 h0; simp [pc] at h1; omega), (by
      rw [e13, q13]
      rw [pT_b h0 (by omega)] at hfin
      exact hfin), (fun hh => by have h1 := hP.2 hh; have h2 := hf2 h0; simp [pc] at h1; omega), gk, (fun _ => hSb h0), h, h_mo, h_bu, h_dr, hE, lv_sub hl [1] rfl⟩
          · skip
            exfalso; omega
        · skip
          exfalso; omega
theorem fl_X11_sum_66 : Cond.fieldLink RX11 66 (TX11 4).1 (TX11 4).2.1 (TX11 4).2.2.1 ∈ wsX11_sum := List.mem_of_getElem? (i := 1) rfl
theorem inn_X11_sum_11 : ∀ w ∈ wsX110, w ∈ wsX11_sum := fun _ h => List.mem_cons_of_mem _ (List.mem_append_right _ h)
set_option maxHeartbeats 4000000 in
set_option maxRecDepth 100000 in
theorem k_X11_sum (l : Launch) {G : va_G} {cy : Nat → ClassId} {ws0 : va_W} {b aM : Nat} {I : Nat → Int} {ad : Nat → Nat} {bu : Int → Int} {dr : Int → Int} {L : Int} {S : PSt} {f : Nat} (n : Nat) (h_mo : ws0[b]? = some (aM, mO I ad)) (h_bu : ws0[b + 1]? = some (ad 1, aI cy 600 bu)) (h_dr : ws0[b + 3]? = some (ad 9, aI cy 1111 dr)) (hS : PCon l G cy yX11_term wsX11_term (rmT n) 1 n) (htx : TXok bu) (hR : PR bu L I dr S) (hG : PG L S) (hn0 : 0 ≤ I 13 ∧ I 13 + n = 5) (hz : n = 0 → S.1 ≠ 0) (hB : S.1 = 0 → 2 * S.2.2.2 4 + 1 ≤ 3 * S.2.2.1) (hF : S.1 = 0 → 6 * (L - S.2.2.1) + 5 < f) : MVs l yX11_sum wsX11_sum (rmS n) G cy [.ref aM] ws0 (PQ cy ws0 b aM I ad bu L (pP bu L f 3 (I 13) S)) := by
  refine MVs.of (own := RX11) (cc := cX11_sum) (nL := 2) (ret := none) (by decide) rfl rfl (Nat.le_of_ble_eq_true rfl) ?_
  intro p e s m below meth c A ls hX E h hl
  have hl : lv_has ls 2 [(0, .ref aM)] := hl
  have hE : Eqx ws0 ws0 (fun j => j = b ∨ j = b + 3) := Eqx.rf
  have gk : ∀ k : Nat, k ≠ 4 → k ≠ 5 → k ≠ 6 → I k = I k := fun _ _ _ _ => rfl
  have hgp := hG.2
  obtain ⟨f9, hf8, hf9⟩ := pS_sp (t := bu) (L := L) (f := f) (dl := I 13) (S := S)
  skip
  refine r_aload_n E 0 hl rfl dX11_sum_0 ?_
  refine r_callVsV E hX h (As := []) (rest := []) (hS (f := f9) h_mo h_bu h_dr htx hR hG hn0 hz hB (fun h0 => by have := hF h0; have := hf9; simp only [pw]; omega)) h_mo rfl gX11_sum_X11_term rfl hd_X11_term (by first | decide | (constructor <;> dsimp only <;> omega)) ⟨Nat.le_of_ble_eq_true rfl, Nat.le_of_ble_eq_true rfl⟩ hl.1 rfl (Nat.le_of_ble_eq_true rfl) dX11_sum_1 rfl (fun ws H locs hp h => ?_)
  obtain ⟨I_1, dr_1, h_mo, h_dr, ⟨hR, gk⟩, hf⟩ := hp
  have h_bu := hf.at h_bu (by first | omega | (dsimp only <;> omega))
  have hs1 := pP_PL (t := bu) f9 1 (I 13) S hG (fun h0 => by have := hF h0; have := hf9; show 6 * (L - S.2.2.1) + 3 < _; omega) (by decide)
  have hE := hE.tr (hf.wk (fun j hj => by first | omega | (dsimp only at hj ⊢ <;> omega)))
  refine r_loop (fun n H locs ls => ∃ (ws : va_W) (f2 : Nat) (S2 : PSt) (I3 : Nat → Int) (dr3 : Int → Int), n = ((f2 : Int)).toNat ∧ (PR bu L I3 dr3 S2) ∧ (PG L S2) ∧ (S2.1 = 0 → 2 * S2.2.2.2 4 + 0 ≤ 3 * S2.2.2.1) ∧ (pP bu L f2 4 (I 13) S2 = pP bu L f 3 (I 13) S) ∧ (S2.1 = 0 → 6 * (L - S2.2.2.1) + 4 < f2) ∧ (∀ k : Nat, k ≠ 4 → k ≠ 5 → k ≠ 6 → I3 k = I k) ∧ (S2.1 = 0 → S.1 = 0) ∧ Hp G ws A s.heap H locs ∧ (ws[b]? = some (aM, mO I3 ad)) ∧ (ws[b + 1]? = some (ad 1, aI cy 600 bu)) ∧ (ws[b + 3]? = some (ad 9, aI cy 1111 dr3)) ∧ Eqx ws0 ws (fun j => j = b ∨ j = b + 3) ∧ lv_has ls 2 [(0, .ref aM)]) _ ⟨ws, f9, (pP bu L f9 1 (I 13) S), I_1, dr_1, rfl, hR, hs1.1, (fun hh => by have h1 := hs1.2 hh; have h2 := hB h1.1; simp [pc] at h1; omega), hf8.symm, (fun hh => by have h1 := hs1.2 hh; have h2 := hF h1.1; simp [pc] at h1; omega), gk, (fun hh => (hs1.2 hh).1), h, h_mo, h_bu, h_dr, hE, lv_sub hl [0] rfl⟩ ?_
  rintro n H locs ls ⟨ws, f2, S2, I3, dr3, hn, hR, hG2, hB2, hfin, hf2, gk, hSb, h, h_mo, h_bu, h_dr, hE, hl⟩ ih_4
  skip
  refine r_aload_n E 0 hl rfl dX11_sum_4 ?_
  refine r_callVI E h (As := []) (rest := []) (k_X11_isGood l h_mo hR.2.2.1) h_mo rfl gX11_sum_X11_isGood rfl hd_X11_isGood (by first | decide | (constructor <;> dsimp only <;> omega)) ⟨Nat.le_of_ble_eq_true rfl, Nat.le_of_ble_eq_true rfl⟩ hl.1 rfl (Nat.le_of_ble_eq_true rfl) dX11_sum_5 rfl (fun z_5 ws H locs hp h => ?_)
  obtain ⟨e_z_5, rfl⟩ := hp
  have hR5 := hR.2.2.1
  refine r_if_eq E 74 dX11_sum_8 (by decide) (by omega) (fun c_8 => ?_) (fun c_8 => ?_)
  · skip
    exact r_vret E h ⟨_, _, h_mo, h_dr, ⟨by
  rw [show pP bu L f 3 (I 13) S = S2 from (by
    rw [← hfin]
    exact (pP_bad _ _ _ _ (by have := hR.2.2.2.1.1; omega)))]
  exact hR, gk⟩, hE⟩ dX11_sum_74
  · skip
    have h0 : S2.1 = 0 := by have := hR.2.2.2.1.1; omega
    have hgp2 := (hG2.2 h0).1
    have hF2 := hf2 h0
    have hB9 := hB2 h0
    obtain ⟨f8, rfl⟩ : ∃ k, f2 = k + 1 := ⟨f2 - 1, by omega⟩
    refine r_aload_n E 0 hl rfl dX11_sum_11 ?_
    refine r_callVI E h (As := []) (rest := []) (k_X11_next l h_mo h_bu htx hR.hL hR.hp) h_mo rfl gX11_sum_X11_next rfl hd_X11_next (by first | decide | (constructor <;> dsimp only <;> omega)) ⟨Nat.le_of_ble_eq_true rfl, Nat.le_of_ble_eq_true rfl⟩ hl.1 rfl (Nat.le_of_ble_eq_true rfl) dX11_sum_12 rfl (fun z_12 ws H locs hp h => ?_)
    obtain ⟨e_12, I_12, h_mo, ⟨f_12, g_12⟩, hf⟩ := hp
    have h_bu := hf.at h_bu (by first | omega | (dsimp only <;> omega))
    have h_dr := hf.at h_dr (by first | omega | (dsimp only <;> omega))
    have hE := hE.tr (hf.wk (fun j hj => by first | omega | (dsimp only at hj ⊢ <;> omega)))
    have b_12 : z_12 = byA bu L (S2).2.2.1 := hR.by h0 e_12
    have at4 : I_12 4 = (S2).2.2.1 := hR.at4 h0 f_12
    have hR : PR bu L I_12 dr3 S2 := hR.mv f_12 g_12
    have gk : ∀ k : Nat, k ≠ 4 → k ≠ 5 → k ≠ 6 → I_12 k = I k := fun k q4 q5 q6 => (g_12 k q4).trans (gk k q4 q5 q6)
    have hbr := byA_rng htx (L := L) (p := S2.2.2.1)
    refine r_bipush E dX11_sum_15 (by decide) ?_
    refine r_icmp_eq E 29 dX11_sum_17 (by decide) (by omega) (fun c_17 => ?_) (fun c_17 => ?_)
    · skip
      skip
      have hlt : S2.2.2.1 < L := byA_in (t := bu) (by omega)
      refine r_aload_n E 0 hl rfl dX11_sum_29 ?_
      refine r_callVI E h (As := []) (rest := []) (k_X11_next l h_mo h_bu htx hR.hL hR.hp) h_mo rfl gX11_sum_X11_next rfl hd_X11_next (by first | decide | (constructor <;> dsimp only <;> omega)) ⟨Nat.le_of_ble_eq_true rfl, Nat.le_of_ble_eq_true rfl⟩ hl.1 rfl (Nat.le_of_ble_eq_true rfl) dX11_sum_30 rfl (fun z_30 ws H locs hp h => ?_)
      obtain ⟨e_30, I_30, h_mo, ⟨f_30, g_30⟩, hf⟩ := hp
      have h_bu := hf.at h_bu (by first | omega | (dsimp only <;> omega))
      have h_dr := hf.at h_dr (by first | omega | (dsimp only <;> omega))
      have hE := hE.tr (hf.wk (fun j hj => by first | omega | (dsimp only at hj ⊢ <;> omega)))
      have b_30 : z_30 = byA bu L (S2).2.2.1 := hR.by h0 e_30
      have at4 : I_30 4 = (S2).2.2.1 := hR.at4 h0 f_30
      have hR : PR bu L I_30 dr3 S2 := hR.mv f_30 g_30
      have gk : ∀ k : Nat, k ≠ 4 → k ≠ 5 → k ≠ 6 → I_30 k = I k := fun k q4 q5 q6 => (g_30 k q4).trans (gk k q4 q5 q6)
      refine r_bipush E dX11_sum_33 (by decide) ?_
      refine r_icmp_ne E 42 dX11_sum_35 (by decide) (by omega) (fun c_35 => ?_) (fun c_35 => ?_)
      · skip
        exfalso; omega
      · skip
        refine r_iconst E dX11_sum_38 ?_
        refine r_goto E 43 dX11_sum_39 (by decide) ?_
        refine r_istore_n (lv' := [(1, .int (zI 1)), (0, .ref aM)]) E hl dX11_sum_43 rfl (by decide) rfl (fun ls hl => ?_)
        refine r_aload_n E 1 hl rfl dX11_sum_44 ?_
        refine r_dup E dX11_sum_45 rfl ?_
        refine r_get (v := .int (zI (I_30 4))) E h h_mo rfl inn_X11_sum_11 4 (by decide) fl_X11_sum_66 rfl dX11_sum_46 ?_
        refine r_iconst E dX11_sum_49 ?_
        refine r_iadd E dX11_sum_50 ?_
        refine r_put E h h_mo rfl inn_X11_sum_11 4 (by decide) fl_X11_sum_66 tyX11 tyX11_ok nmX11 rfl rfl rfl (Nat.le_of_ble_eq_true rfl) dX11_sum_51 (fun ws H locs h hu => ?_)
        have h_mo : ws[b]? = some (aM, mO (va_up I_30 4 ((I_30 4) + 1)) ad) := hu.1
        have h_bu := hu.keep h_bu (by omega)
        have h_dr := hu.keep h_dr (by omega)
        have hE := hE.tr (hu.eqx (by first | omega | (dsimp only <;> omega)))
        skip
        have e4 : (va_up I_30 4 ((I_30 4) + 1)) 4 = I_30 4 + 1 := by simp [va_up]
        have ek : ∀ k : Nat, k ≠ 4 → (va_up I_30 4 ((I_30 4) + 1)) k = I_30 k := fun k k1 => by simp [va_up, k1]
        have q13 := gk 13 (by decide) (by decide) (by decide)
        have e13 := ek 13 (by decide)
        have hby := byte_PL (t := bu) hG2 h0 (c := z_12) (by omega) (by omega)
        have hR : PR bu L (va_up I_30 4 ((I_30 4) + 1)) dr3 ((0, S2.2.1, sk bu L (S2.2.2.1 + 1), S2.2.2.2) : PSt) := hR.step h0 at4 (by omega) (ek 3 (by decide)) e4 (ek 5 (by decide)) (ek 6 (by decide))
        refine r_aload_n E 1 hl rfl dX11_sum_54 ?_
        refine r_callVsV E hX h (As := []) (rest := []) (hS (f := f8) h_mo h_bu h_dr htx hR hby.1 (by omega) (fun h9 => absurd (hSb h0) (hz h9)) (fun _ => by have h7 := hby.2 rfl; dsimp only at h7 ⊢; omega) (fun _ => by have h7 := hby.2 rfl; dsimp only at h7; show 6 * (L - sk bu L (S2.2.2.1 + 1)) + 3 < _; omega)) h_mo rfl gX11_sum_X11_term rfl hd_X11_term (by first | decide | (constructor <;> dsimp only <;> omega)) ⟨Nat.le_of_ble_eq_true rfl, Nat.le_of_ble_eq_true rfl⟩ hl.1 rfl (Nat.le_of_ble_eq_true rfl) dX11_sum_55 rfl (fun ws H locs hp h => ?_)
        obtain ⟨I_55, dr_55, h_mo, h_dr, ⟨hR, g_55⟩, hf⟩ := hp
        have h_bu := hf.at h_bu (by first | omega | (dsimp only <;> omega))
        have hE := hE.tr (hf.wk (fun j hj => by first | omega | (dsimp only at hj ⊢ <;> omega)))
        have hs := pP_PL (t := bu) f8 1 ((va_up I_30 4 ((I_30 4) + 1)) 13) _ hby.1 (fun _ => by have h7 := hby.2 rfl; dsimp only at h7; show 6 * (L - sk bu L (S2.2.2.1 + 1)) + 3 < _; omega) (by decide)
        have h4 := (hby.tr hs).e4 hR hB2 (by decide)
        have gk : ∀ k : Nat, k ≠ 4 → k ≠ 5 → k ≠ 6 → I_55 k = I k := fun k q4 q5 q6 => by rw [g_55 k q4 q5 q6, ek k q4]; exact gk k q4 q5 q6
        refine r_aload_n E 1 hl rfl dX11_sum_58 ?_
        refine r_iload_n E 0 hl rfl dX11_sum_59 ?_
        refine r_if_eq E 67 dX11_sum_60 (by decide) (by omega) (fun c_60 => ?_) (fun c_60 => ?_)
        · skip
          exfalso; omega
        · skip
          skip
          refine r_iconst E dX11_sum_63 ?_
          refine r_goto E 68 dX11_sum_64 (by decide) ?_
          refine r_callVV E h (As := [.int (zI 2)]) (rest := []) (k_X11_emit l 2 h_mo h_dr hR.2.2.1 h4) h_mo rfl gX11_sum_X11_emit rfl hd_X11_emit (by first | decide | (constructor <;> dsimp only <;> omega)) ⟨Nat.le_of_ble_eq_true rfl, Nat.le_of_ble_eq_true rfl⟩ hl.1 rfl (Nat.le_of_ble_eq_true rfl) dX11_sum_68 rfl (fun ws H locs hp h => ?_)
          obtain ⟨dr_68, h_dr, e_68, hf⟩ := hp
          have h_mo := hf.at h_mo (by first | omega | (dsimp only <;> omega))
          have h_bu := hf.at h_bu (by first | omega | (dsimp only <;> omega))
          have hE := hE.tr (hf.wk (fun j hj => by first | omega | (dsimp only at hj ⊢ <;> omega)))
          have hR : PR bu L I_55 dr_68 (pemit 2 (pP bu L f8 1 ((va_up I_30 4 ((I_30 4) + 1)) 13) (((0, S2.2.1, sk bu L (S2.2.2.1 + 1), S2.2.2.2) : PSt)))) := hR.emit e_68
          have hP := (hby.tr hs).tr (pemit_PL hs.1 2)
          refine r_goto E 4 dX11_sum_71 (by decide) ?_
          exact ih_4 _ H locs ls (by omega) ⟨ws, f8, (pemit 2 (pP bu L f8 1 ((va_up I_30 4 ((I_30 4) + 1)) 13) (((0, S2.2.1, sk bu L (S2.2.2.1 + 1), S2.2.2.2) : PSt)))), I_55, dr_68, rfl, hR, hP.1, (fun hh => by have h1 := hP.2 hh; have h2 := hB2 h0; simp [pc] at h1; omega), (by
      rw [e13, q13]
      rw [pS_a h0 (by omega)] at hfin
      exact hfin), (fun hh => by have h1 := hP.2 hh; have h2 := hf2 h0; simp [pc] at h1; omega), gk, (fun _ => hSb h0), h, h_mo, h_bu, h_dr, hE, lv_sub hl [1] rfl⟩
    · skip
      refine r_aload_n E 0 hl rfl dX11_sum_20 ?_
      refine r_callVI E h (As := []) (rest := []) (k_X11_next l h_mo h_bu htx hR.hL hR.hp) h_mo rfl gX11_sum_X11_next rfl hd_X11_next (by first | decide | (constructor <;> dsimp only <;> omega)) ⟨Nat.le_of_ble_eq_true rfl, Nat.le_of_ble_eq_true rfl⟩ hl.1 rfl (Nat.le_of_ble_eq_true rfl) dX11_sum_21 rfl (fun z_21 ws H locs hp h => ?_)
      obtain ⟨e_21, I_21, h_mo, ⟨f_21, g_21⟩, hf⟩ := hp
      have h_bu := hf.at h_bu (by first | omega | (dsimp only <;> omega))
      have h_dr := hf.at h_dr (by first | omega | (dsimp only <;> omega))
      have hE := hE.tr (hf.wk (fun j hj => by first | omega | (dsimp only at hj ⊢ <;> omega)))
      have b_21 : z_21 = byA bu L (S2).2.2.1 := hR.by h0 e_21
      have at4 : I_21 4 = (S2).2.2.1 := hR.at4 h0 f_21
      have hR : PR bu L I_21 dr3 S2 := hR.mv f_21 g_21
      have gk : ∀ k : Nat, k ≠ 4 → k ≠ 5 → k ≠ 6 → I_21 k = I k := fun k q4 q5 q6 => (g_21 k q4).trans (gk k q4 q5 q6)
      refine r_bipush E dX11_sum_24 (by decide) ?_
      refine r_icmp_ne E 74 dX11_sum_26 (by decide) (by omega) (fun c_26 => ?_) (fun c_26 => ?_)
      · skip
        exact r_vret E h ⟨_, _, h_mo, h_dr, ⟨by
  rw [show pP bu L f 3 (I 13) S = S2 from (by
    rw [← hfin]
    exact (pS_n h0 (by omega) (by omega)))]
  exact hR, gk⟩, hE⟩ dX11_sum_74
      · skip
        skip
        have hlt : S2.2.2.1 < L := byA_in (t := bu) (by omega)
        refine r_aload_n E 0 hl rfl dX11_sum_29 ?_
        refine r_callVI E h (As := []) (rest := []) (k_X11_next l h_mo h_bu htx hR.hL hR.hp) h_mo rfl gX11_sum_X11_next rfl hd_X11_next (by first | decide | (constructor <;> dsimp only <;> omega)) ⟨Nat.le_of_ble_eq_true rfl, Nat.le_of_ble_eq_true rfl⟩ hl.1 rfl (Nat.le_of_ble_eq_true rfl) dX11_sum_30 rfl (fun z_30 ws H locs hp h => ?_)
        obtain ⟨e_30, I_30, h_mo, ⟨f_30, g_30⟩, hf⟩ := hp
        have h_bu := hf.at h_bu (by first | omega | (dsimp only <;> omega))
        have h_dr := hf.at h_dr (by first | omega | (dsimp only <;> omega))
        have hE := hE.tr (hf.wk (fun j hj => by first | omega | (dsimp only at hj ⊢ <;> omega)))
        have b_30 : z_30 = byA bu L (S2).2.2.1 := hR.by h0 e_30
        have at4 : I_30 4 = (S2).2.2.1 := hR.at4 h0 f_30
        have hR : PR bu L I_30 dr3 S2 := hR.mv f_30 g_30
        have gk : ∀ k : Nat, k ≠ 4 → k ≠ 5 → k ≠ 6 → I_30 k = I k := fun k q4 q5 q6 => (g_30 k q4).trans (gk k q4 q5 q6)
        refine r_bipush E dX11_sum_33 (by decide) ?_
        refine r_icmp_ne E 42 dX11_sum_35 (by decide) (by omega) (fun c_35 => ?_) (fun c_35 => ?_)
        · skip
          refine r_iconst E dX11_sum_42 ?_
          refine r_istore_n (lv' := [(1, .int (zI 0)), (0, .ref aM)]) E hl dX11_sum_43 rfl (by decide) rfl (fun ls hl => ?_)
          refine r_aload_n E 1 hl rfl dX11_sum_44 ?_
          refine r_dup E dX11_sum_45 rfl ?_
          refine r_get (v := .int (zI (I_30 4))) E h h_mo rfl inn_X11_sum_11 4 (by decide) fl_X11_sum_66 rfl dX11_sum_46 ?_
          refine r_iconst E dX11_sum_49 ?_
          refine r_iadd E dX11_sum_50 ?_
          refine r_put E h h_mo rfl inn_X11_sum_11 4 (by decide) fl_X11_sum_66 tyX11 tyX11_ok nmX11 rfl rfl rfl (Nat.le_of_ble_eq_true rfl) dX11_sum_51 (fun ws H locs h hu => ?_)
          have h_mo : ws[b]? = some (aM, mO (va_up I_30 4 ((I_30 4) + 1)) ad) := hu.1
          have h_bu := hu.keep h_bu (by omega)
          have h_dr := hu.keep h_dr (by omega)
          have hE := hE.tr (hu.eqx (by first | omega | (dsimp only <;> omega)))
          skip
          have e4 : (va_up I_30 4 ((I_30 4) + 1)) 4 = I_30 4 + 1 := by simp [va_up]
          have ek : ∀ k : Nat, k ≠ 4 → (va_up I_30 4 ((I_30 4) + 1)) k = I_30 k := fun k k1 => by simp [va_up, k1]
          have q13 := gk 13 (by decide) (by decide) (by decide)
          have e13 := ek 13 (by decide)
          have hby := byte_PL (t := bu) hG2 h0 (c := z_12) (by omega) (by omega)
          have hR : PR bu L (va_up I_30 4 ((I_30 4) + 1)) dr3 ((0, S2.2.1, sk bu L (S2.2.2.1 + 1), S2.2.2.2) : PSt) := hR.step h0 at4 (by omega) (ek 3 (by decide)) e4 (ek 5 (by decide)) (ek 6 (by decide))
          refine r_aload_n E 1 hl rfl dX11_sum_54 ?_
          refine r_callVsV E hX h (As := []) (rest := []) (hS (f := f8) h_mo h_bu h_dr htx hR hby.1 (by omega) (fun h9 => absurd (hSb h0) (hz h9)) (fun _ => by have h7 := hby.2 rfl; dsimp only at h7 ⊢; omega) (fun _ => by have h7 := hby.2 rfl; dsimp only at h7; show 6 * (L - sk bu L (S2.2.2.1 + 1)) + 3 < _; omega)) h_mo rfl gX11_sum_X11_term rfl hd_X11_term (by first | decide | (constructor <;> dsimp only <;> omega)) ⟨Nat.le_of_ble_eq_true rfl, Nat.le_of_ble_eq_true rfl⟩ hl.1 rfl (Nat.le_of_ble_eq_true rfl) dX11_sum_55 rfl (fun ws H locs hp h => ?_)
          obtain ⟨I_55, dr_55, h_mo, h_dr, ⟨hR, g_55⟩, hf⟩ := hp
          have h_bu := hf.at h_bu (by first | omega | (dsimp only <;> omega))
          have hE := hE.tr (hf.wk (fun j hj => by first | omega | (dsimp only at hj ⊢ <;> omega)))
          have hs := pP_PL (t := bu) f8 1 ((va_up I_30 4 ((I_30 4) + 1)) 13) _ hby.1 (fun _ => by have h7 := hby.2 rfl; dsimp only at h7; show 6 * (L - sk bu L (S2.2.2.1 + 1)) + 3 < _; omega) (by decide)
          have h4 := (hby.tr hs).e4 hR hB2 (by decide)
          have gk : ∀ k : Nat, k ≠ 4 → k ≠ 5 → k ≠ 6 → I_55 k = I k := fun k q4 q5 q6 => by rw [g_55 k q4 q5 q6, ek k q4]; exact gk k q4 q5 q6
          refine r_aload_n E 1 hl rfl dX11_sum_58 ?_
          refine r_iload_n E 0 hl rfl dX11_sum_59 ?_
          refine r_if_eq E 67 dX11_sum_60 (by decide) (by omega) (fun c_60 => ?_) (fun c_60 => ?_)
          · skip
            skip
            refine r_iconst E dX11_sum_67 ?_
            refine r_callVV E h (As := [.int (zI 3)]) (rest := []) (k_X11_emit l 3 h_mo h_dr hR.2.2.1 h4) h_mo rfl gX11_sum_X11_emit rfl hd_X11_emit (by first | decide | (constructor <;> dsimp only <;> omega)) ⟨Nat.le_of_ble_eq_true rfl, Nat.le_of_ble_eq_true rfl⟩ hl.1 rfl (Nat.le_of_ble_eq_true rfl) dX11_sum_68 rfl (fun ws H locs hp h => ?_)
            obtain ⟨dr_68, h_dr, e_68, hf⟩ := hp
            have h_mo := hf.at h_mo (by first | omega | (dsimp only <;> omega))
            have h_bu := hf.at h_bu (by first | omega | (dsimp only <;> omega))
            have hE := hE.tr (hf.wk (fun j hj => by first | omega | (dsimp only at hj ⊢ <;> omega)))
            have hR : PR bu L I_55 dr_68 (pemit 3 (pP bu L f8 1 ((va_up I_30 4 ((I_30 4) + 1)) 13) (((0, S2.2.1, sk bu L (S2.2.2.1 + 1), S2.2.2.2) : PSt)))) := hR.emit e_68
            have hP := (hby.tr hs).tr (pemit_PL hs.1 3)
            refine r_goto E 4 dX11_sum_71 (by decide) ?_
            exact ih_4 _ H locs ls (by omega) ⟨ws, f8, (pemit 3 (pP bu L f8 1 ((va_up I_30 4 ((I_30 4) + 1)) 13) (((0, S2.2.1, sk bu L (S2.2.2.1 + 1), S2.2.2.2) : PSt)))), I_55, dr_68, rfl, hR, hP.1, (fun hh => by have h1 := hP.2 hh; have h2 := hB2 h0; simp [pc] at h1; omega), (by
      rw [e13, q13]
      rw [pS_b h0 (by omega)] at hfin
      exact hfin), (fun hh => by have h1 := hP.2 hh; have h2 := hf2 h0; simp [pc] at h1; omega), gk, (fun _ => hSb h0), h, h_mo, h_bu, h_dr, hE, lv_sub hl [1] rfl⟩
          · skip
            exfalso; omega
        · skip
          exfalso; omega
