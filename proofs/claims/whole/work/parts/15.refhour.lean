theorem hdv_X7_plows : yX7_plows.cls = RX7 ∧ yX7_plows.cls ≠ "java/lang/invoke/MethodHandle" ∧ yX7_plows.cls ≠ "java/lang/invoke/VarHandle" ∧ (parseMethodDescriptor yX7_plows.desc).map (fun d => d.parameters.length) = some 1 := by decide +kernel
def fP_X7_plows_L114 (q : Nat) : Nat → Int32 → Int32 → (Nat → Int32) → Nat → Int32
  | 0, mo, mt, Pl =>
    if mo = 0 then
      Pl
    else
      Pl
  | k + 1, mo, mt, Pl =>
    if mo = 0 then
      Pl
    else
      if mt ≤ 0 then
        Pl
      else
        if Pl (169 + 20 * q + 5) = 0 then
          if fR_X7_isDue Pl (rt Pl q (pa Pl q)) = 0 then
            let P20 := fP_X7_goesOn Pl q
            let x21 := fR_X7_goesOn Pl q
            fP_X7_plows_L114 q k x21 mt P20
          else
            let x11 := fR_X7_lesser mt ((fR_X7_of Pl (rt Pl q (pa Pl q)) 0) - (Pl (169 + 20 * q + 5)))
            let x12 := mt - x11
            let x13 := (Pl (169 + 20 * q + 5)) + x11
            let P14 := upd Pl (169 + 20 * q + 5) x13
            let x15 := (P14 (169 + 20 * q + 7)) + x11
            let P16 := upd P14 (169 + 20 * q + 7) x15
            if P16 (169 + 20 * q + 5) = fR_X7_of P16 (rt Pl q (pa Pl q)) 0 then
              let P17 := fP_X7_clears P16 q (rt Pl q (pa Pl q))
              let P18 := fP_X7_goesOn P17 q
              let x19 := fR_X7_goesOn P17 q
              fP_X7_plows_L114 q k x19 x12 P18
            else
              fP_X7_plows_L114 q k mo x12 P16
        else
          let x2 := fR_X7_lesser mt ((fR_X7_of Pl (rt Pl q (pa Pl q)) 0) - (Pl (169 + 20 * q + 5)))
          let x3 := mt - x2
          let x4 := (Pl (169 + 20 * q + 5)) + x2
          let P5 := upd Pl (169 + 20 * q + 5) x4
          let x6 := (P5 (169 + 20 * q + 7)) + x2
          let P7 := upd P5 (169 + 20 * q + 7) x6
          if P7 (169 + 20 * q + 5) = fR_X7_of P7 (rt Pl q (pa Pl q)) 0 then
            let P8 := fP_X7_clears P7 q (rt Pl q (pa Pl q))
            let P9 := fP_X7_goesOn P8 q
            let x10 := fR_X7_goesOn P8 q
            fP_X7_plows_L114 q k x10 x3 P9
          else
            fP_X7_plows_L114 q k mo x3 P7
def fP_X7_plows (P : Nat → Int32) (q : Nat) : Nat → Int32 :=
  if P (169 + 20 * q + 3) ≤ 0 then
    let x1 := P (169 + 20 * q + 0)
    fP_X7_plows_L114 q 12 0 x1 P
  else
    if P (169 + 20 * q + 4) = 0 then
      if P (169 + 20 * q + 5) = 0 then
        let x24 := fR_X7_lesser ((P (169 + 20 * q + 1)) - (P (169 + 20 * q + 2))) (P 3)
        let x25 := (P (169 + 20 * q + 2)) + x24
        let P26 := upd P (169 + 20 * q + 2) x25
        let x27 := (P26 3) - x24
        let P28 := upd P26 3 x27
        let x29 := P28 (169 + 20 * q + 0)
        fP_X7_plows_L114 q 12 1 x29 P28
      else
        let x23 := P (169 + 20 * q + 0)
        fP_X7_plows_L114 q 12 1 x23 P
    else
      let x22 := P (169 + 20 * q + 0)
      fP_X7_plows_L114 q 12 1 x22 P
set_option maxHeartbeats 4000000 in
set_option maxRecDepth 100000 in
theorem c_X7_plows (l : Launch) (D : va_G) (o : Nat) (P S V T F : Nat → Int32) (h : Int64) (q : Nat) (hq : q < 3) (hW0 : ¬ P (169 + 20 * q + 3) ≤ 0 → okW P q) : Met l yX7_plows (wA yX7_plows cX7_plows 7 none) (rmL 3) (gPc D [.ref o, .int (nI q)] (fun H => Md D o P S V T F h H)) (gQv (inM o) (fun H => Md D o (fP_X7_plows P q) S V T F h H)) 0 0 (inM o) := by
  refine Met.ofW (cc := cX7_plows) (maxL := 7) (ret := none) (by decide) rfl ?_
  intro p e s m args below meth c s₁ B hml hv
  obtain ⟨hav, hG, hK⟩ := hv
  have hx := B.exec
  have hb := B.bytes
  have hr := B.returns
  have hts0 := atoms_spec (ws := wA yX7_plows cX7_plows 7 none) B.pre
  have hts : ∀ w ∈ AW, w.before _ s = true := fun w h => hts0 w (List.mem_cons_of_mem _ h)
  have hown : s.vm.findClass RX7 = some m.cls := findClass_of_methodNamed B.named
  have hlocks := B.notSynchronized
  have hA : ∀ q, (inM o) q → (inM o) q := fun _ h => h
  have hS : va_S (inM o) s.heap s.heap [] := va_S.rf
  have hG : Md D o P S V T F h s.heap := hG
  have hl := lv_entry ([.ref o, .int (nI q)]) (n := 7) (Nat.le_of_ble_eq_true rfl)
  refine W.eq (g2 := entryFrame m ([.ref o, .int (nI q)] : List Value).toArray 7) (by rw [hav]) ?_
  rw [lg_entry_eq]
  generalize (lg_sl ([.ref o, .int (nI q)]) ++ List.replicate (7 - (lg_sl ([.ref o, .int (nI q)])).length) Slot.unset).toArray = ls at hl ⊢
  have hl : lv_has ls 7 [(0, .ref o), (1, .int (nI q))] := hl
  have L114 : ∀ (k : Nat) (mo : Int32) (mt : Int32) (Pl : Nat → Int32) (H : Heap) (locs : List Loc) (ls : Array Slot) (hI : mo = 0 ∨ mt ≤ 0 ∨ (okW Pl q ∧ nc Pl q - pa Pl q ≤ k)) (hfP : fP_X7_plows P q = fP_X7_plows_L114 q k mo mt Pl) (hG : Md D o Pl S V T F h H) (hS : va_S (inM o) s.heap H locs) (hl : lv_has ls 7 [(0, .ref o), (1, .int (nI q)), (2, .int (nI (169 + 20 * q))), (3, .int mo), (4, .int mt)]), W p l e (headSpec (wA yX7_plows cX7_plows 7 none) (rmL 3)).room s m args below meth c H locs 0 0 (MQ below (gQv (inM o) (fun H => Md D o (fP_X7_plows P q) S V T F h H)) args s 0 0 (inM o)) (F0 m 114 ls []) := by
    intro k
    induction k with
    | zero =>
      intro mo mt Pl H locs ls hI hfP hG hS hl
      refine lv_iload_n hx hb dX7_plows_114 rfl (lv_at hl 3 rfl) ?_
      refine lv_if_eq (tgt := 263) hx hb dX7_plows_115 (by decide) (fun c115 => ?_) (fun c115 => ?_)
      · have hG9 : Md D o (fP_X7_plows P q) S V T F h H := by
          rw [hfP, fP_X7_plows_L114]; (try dsimp only); (try rw [if_pos c115])
          exact hG
        exact W.vret hx hb hr (fun t ht hW => gQv_of hG9 hS ht) hS.2.2 dX7_plows_263
      · refine lv_iload hx hb dX7_plows_118 (lv_at hl 4 rfl) ?_
        refine lv_if_le (tgt := 263) hx hb dX7_plows_120 (by decide) (fun c120 => ?_) (fun c120 => ?_)
        · have hG9 : Md D o (fP_X7_plows P q) S V T F h H := by
            rw [hfP, fP_X7_plows_L114]; (try dsimp only); (try rw [if_neg c115])
            exact hG
          exact W.vret hx hb hr (fun t ht hW => gQv_of hG9 hS ht) hS.2.2 dX7_plows_263
        · exact plows_z hI c115 c120
    | succ k ih =>
      intro mo mt Pl H locs ls hI hfP hG hS hl
      refine lv_iload_n hx hb dX7_plows_114 rfl (lv_at hl 3 rfl) ?_
      refine lv_if_eq (tgt := 263) hx hb dX7_plows_115 (by decide) (fun c115 => ?_) (fun c115 => ?_)
      · have hG9 : Md D o (fP_X7_plows P q) S V T F h H := by
          rw [hfP, fP_X7_plows_L114]; (try dsimp only); (try rw [if_pos c115])
          exact hG
        exact W.vret hx hb hr (fun t ht hW => gQv_of hG9 hS ht) hS.2.2 dX7_plows_263
      · refine lv_iload hx hb dX7_plows_118 (lv_at hl 4 rfl) ?_
        refine lv_if_le (tgt := 263) hx hb dX7_plows_120 (by decide) (fun c120 => ?_) (fun c120 => ?_)
        · have hG9 : Md D o (fP_X7_plows P q) S V T F h H := by
            rw [hfP, fP_X7_plows_L114]; (try dsimp only); (try rw [if_neg c115, if_pos c120])
            exact hG
          exact W.vret hx hb hr (fun t ht hW => gQv_of hG9 hS ht) hS.2.2 dX7_plows_263
        · have hW := plows_w hI c115 c120
          have hs20 := (hW.1.2.2.2.2 _ hW.1.2.2.2.1).2.1
          have hrs := (hW.1.2.2.2.2 _ hW.1.2.2.2.1).2.2
          refine lv_aload_n hx hb dX7_plows_123 rfl (lv_at hl 0 rfl) ?_
          refine getMm hx hb hts hown hK hG qF_X7_7 dX7_plows_124 ?_
          refine lv_iload_n hx hb dX7_plows_127 rfl (lv_at hl 2 rfl) ?_
          refine lv_bipush (v := 8) hx hb dX7_plows_128 (by decide) ?_
          refine iaddN (a := 169 + 20 * q) (b := 8) hx hb dX7_plows_130 ?_
          refine lv_aload_n hx hb dX7_plows_131 rfl (lv_at hl 0 rfl) ?_
          refine getMm hx hb hts hown hK hG qF_X7_7 dX7_plows_132 ?_
          refine lv_iload_n hx hb dX7_plows_135 rfl (lv_at hl 2 rfl) ?_
          refine lv_iconst (v := 4) hx hb dX7_plows_136 (by decide) ?_
          refine iaddN (a := 169 + 20 * q) (b := 4) hx hb dX7_plows_137 ?_
          refine aldMm (k := 169 + 20 * q + 4) hx hb hK hG (by omega) dX7_plows_138 ?_
          refine topN (n := (pa Pl q)) hW.1.2.2.1 ?_
          refine iaddN (a := 169 + 20 * q + 8) (b := (pa Pl q)) hx hb dX7_plows_139 ?_
          refine aldMm (k := 169 + 20 * q + 8 + (pa Pl q)) hx hb hK hG (by have h1 := hW.1.2.2.2.1; have h2 := hW.1.2.1; omega) dX7_plows_140 ?_
          refine topN (n := (rt Pl q (pa Pl q))) (hW.1.2.2.2.2 _ hW.1.2.2.2.1).1 ?_
          refine lv_istore (lv' := [(5, .int (nI (rt Pl q (pa Pl q)))), (0, .ref o), (1, .int (nI q)), (2, .int (nI (169 + 20 * q))), (3, .int mo), (4, .int mt)]) hx hb dX7_plows_141 hl (by decide) rfl (fun ls hl => ?_)
          refine lv_aload_n hx hb dX7_plows_143 rfl (lv_at hl 1 rfl) ?_
          refine getMm hx hb hts hown hK hG qF_X7_7 dX7_plows_144 ?_
          refine lv_iload_n hx hb dX7_plows_147 rfl (lv_at hl 3 rfl) ?_
          refine lv_iconst (v := 5) hx hb dX7_plows_148 (by decide) ?_
          refine iaddN (a := 169 + 20 * q) (b := 5) hx hb dX7_plows_149 ?_
          refine aldMm (k := 169 + 20 * q + 5) hx hb hK hG (by omega) dX7_plows_150 ?_
          refine lv_if_ne (tgt := 172) hx hb dX7_plows_151 (by decide) (fun c151 => ?_) (fun c151 => ?_)
          · refine lv_iload hx hb dX7_plows_172 (lv_at hl 5 rfl) ?_
            refine lv_aload_n hx hb dX7_plows_174 rfl (lv_at hl 1 rfl) ?_
            refine lv_iload hx hb dX7_plows_175 (lv_at hl 0 rfl) ?_
            refine lv_iconst (v := 0) hx hb dX7_plows_177 (by decide) ?_
            refine gcVi (As := [.int (nI (rt Pl q (pa Pl q))), .int 0]) (rest := [.int mt]) hx hb hml hown hts hl.1 hK (c_X7_of l D o Pl S V T F h (rt Pl q (pa Pl q)) 0 hs20 (by first | assumption | omega)) (gaV qM_X7_41 qI_X7_of qS_X7_of qK_X7 qC_X7_of) hdv_X7_of ⟨Nat.le_of_ble_eq_true rfl, Nat.le_of_ble_eq_true rfl⟩ hG (hG.recv hK) rfl (Nat.le_of_ble_eq_true rfl) ⟨Nat.zero_le _, Nat.zero_le _⟩ dX7_plows_178 hS hA (fun H locs hG _ _ hS => ?_)
            have hG : Md D o Pl S V T F h H := hG
            refine lv_aload_n hx hb dX7_plows_181 rfl (lv_at hl 1 rfl) ?_
            refine getMm hx hb hts hown hK hG qF_X7_7 dX7_plows_182 ?_
            refine lv_iload_n hx hb dX7_plows_185 rfl (lv_at hl 3 rfl) ?_
            refine lv_iconst (v := 5) hx hb dX7_plows_186 (by decide) ?_
            refine iaddN (a := 169 + 20 * q) (b := 5) hx hb dX7_plows_187 ?_
            refine aldMm (k := 169 + 20 * q + 5) hx hb hK hG (by omega) dX7_plows_188 ?_
            refine lv_isub hx hb dX7_plows_189 ?_
            refine gcSi (As := [.int mt, .int ((fR_X7_of Pl (rt Pl q (pa Pl q)) 0) - (Pl (169 + 20 * q + 5)))]) (rest := []) hx hb hml hown hts hl.1 hK (c_X7_lesser l D (fun H => Md D o Pl S V T F h H) mt ((fR_X7_of Pl (rt Pl q (pa Pl q)) 0) - (Pl (169 + 20 * q + 5)))) (gaS qM_X7_72 qT_X7_lesser qK_X7 qC_X7_lesser) hds_X7_lesser ⟨Nat.le_of_ble_eq_true rfl, Nat.le_of_ble_eq_true rfl⟩ hG rfl (Nat.le_of_ble_eq_true rfl) ⟨Nat.zero_le _, Nat.zero_le _⟩ dX7_plows_190 hS (fun _ (h : noA _) => False.elim h) (fun H locs hG _ _ hS => ?_)
            have hG : Md D o Pl S V T F h H := hG
            refine lv_topi (fun x2 ex2 => ?_)
            refine lv_istore (lv' := [(6, .int x2), (5, .int (nI (rt Pl q (pa Pl q)))), (0, .ref o), (1, .int (nI q)), (2, .int (nI (169 + 20 * q))), (3, .int mo), (4, .int mt)]) hx hb dX7_plows_193 hl (by decide) rfl (fun ls hl => ?_)
            refine lv_iload hx hb dX7_plows_195 (lv_at hl 6 rfl) ?_
            refine lv_iload hx hb dX7_plows_197 (lv_at hl 0 rfl) ?_
            refine lv_isub hx hb dX7_plows_199 ?_
            refine lv_topi (fun x3 ex3 => ?_)
            refine lv_istore (lv' := [(4, .int x3), (6, .int x2), (5, .int (nI (rt Pl q (pa Pl q)))), (0, .ref o), (1, .int (nI q)), (2, .int (nI (169 + 20 * q))), (3, .int mo)]) hx hb dX7_plows_200 hl (by decide) rfl (fun ls hl => ?_)
            refine lv_aload_n hx hb dX7_plows_202 rfl (lv_at hl 3 rfl) ?_
            refine getMm hx hb hts hown hK hG qF_X7_7 dX7_plows_203 ?_
            refine lv_iload_n hx hb dX7_plows_206 rfl (lv_at hl 5 rfl) ?_
            refine lv_iconst (v := 5) hx hb dX7_plows_207 (by decide) ?_
            refine iaddN (a := 169 + 20 * q) (b := 5) hx hb dX7_plows_208 ?_
            refine lv_dup2_11 hx hb dX7_plows_209 rfl rfl ?_
            refine aldMm (k := 169 + 20 * q + 5) hx hb hK hG (by omega) dX7_plows_210 ?_
            refine lv_iload hx hb dX7_plows_211 (lv_at hl 1 rfl) ?_
            refine lv_iadd hx hb dX7_plows_213 ?_
            refine lv_topi (fun x4 ex4 => ?_)
            refine astMm (k := 169 + 20 * q + 5) hx hb hK hG hS hA (by omega) dX7_plows_214 (fun H locs hG hS => ?_)
            generalize eP5 : upd Pl (169 + 20 * q + 5) x4 = P5 at hG
            refine lv_aload_n hx hb dX7_plows_215 rfl (lv_at hl 3 rfl) ?_
            refine getMm hx hb hts hown hK hG qF_X7_7 dX7_plows_216 ?_
            refine lv_iload_n hx hb dX7_plows_219 rfl (lv_at hl 5 rfl) ?_
            refine lv_bipush (v := 7) hx hb dX7_plows_220 (by decide) ?_
            refine iaddN (a := 169 + 20 * q) (b := 7) hx hb dX7_plows_222 ?_
            refine lv_dup2_11 hx hb dX7_plows_223 rfl rfl ?_
            refine aldMm (k := 169 + 20 * q + 7) hx hb hK hG (by omega) dX7_plows_224 ?_
            refine lv_iload hx hb dX7_plows_225 (lv_at hl 1 rfl) ?_
            refine lv_iadd hx hb dX7_plows_227 ?_
            refine lv_topi (fun x6 ex6 => ?_)
            refine astMm (k := 169 + 20 * q + 7) hx hb hK hG hS hA (by omega) dX7_plows_228 (fun H locs hG hS => ?_)
            generalize eP7 : upd P5 (169 + 20 * q + 7) x6 = P7 at hG
            refine lv_aload_n hx hb dX7_plows_229 rfl (lv_at hl 3 rfl) ?_
            refine getMm hx hb hts hown hK hG qF_X7_7 dX7_plows_230 ?_
            refine lv_iload_n hx hb dX7_plows_233 rfl (lv_at hl 5 rfl) ?_
            refine lv_iconst (v := 5) hx hb dX7_plows_234 (by decide) ?_
            refine iaddN (a := 169 + 20 * q) (b := 5) hx hb dX7_plows_235 ?_
            refine aldMm (k := 169 + 20 * q + 5) hx hb hK hG (by omega) dX7_plows_236 ?_
            refine lv_aload_n hx hb dX7_plows_237 rfl (lv_at hl 3 rfl) ?_
            refine lv_iload hx hb dX7_plows_238 (lv_at hl 2 rfl) ?_
            refine lv_iconst (v := 0) hx hb dX7_plows_240 (by decide) ?_
            refine gcVi (As := [.int (nI (rt Pl q (pa Pl q))), .int 0]) (rest := [.int (P7 (169 + 20 * q + 5))]) hx hb hml hown hts hl.1 hK (c_X7_of l D o P7 S V T F h (rt Pl q (pa Pl q)) 0 hs20 (by first | assumption | omega)) (gaV qM_X7_41 qI_X7_of qS_X7_of qK_X7 qC_X7_of) hdv_X7_of ⟨Nat.le_of_ble_eq_true rfl, Nat.le_of_ble_eq_true rfl⟩ hG (hG.recv hK) rfl (Nat.le_of_ble_eq_true rfl) ⟨Nat.zero_le _, Nat.zero_le _⟩ dX7_plows_241 hS hA (fun H locs hG _ _ hS => ?_)
            have hG : Md D o P7 S V T F h H := hG
            refine lv_icmp_ne (tgt := 260) hx hb dX7_plows_244 (by decide) (fun c244 => ?_) (fun c244 => ?_)
            · refine lv_goto (tgt := 114) hx hb dX7_plows_260 (by decide) ?_
              subst eP7
              subst ex6
              subst eP5
              subst ex4
              subst ex3
              subst ex2
              exact ih _ _ _ _ _ _ (by first | exact go_inv hW | exact go_inv2 hW (by omega) | exact Or.inr (Or.inl (left1 c244 hs20 rfl))) (by rw [hfP, fP_X7_plows_L114]; (try dsimp only); (try rw [if_neg c115, if_neg c120, if_neg c151, if_neg c244]); (try rfl)) hG hS (lv_sub hl [3, 4, 5, 6, 0] rfl)
            · refine lv_aload_n hx hb dX7_plows_247 rfl (lv_at hl 3 rfl) ?_
              refine lv_iload_n hx hb dX7_plows_248 rfl (lv_at hl 4 rfl) ?_
              refine lv_iload hx hb dX7_plows_249 (lv_at hl 2 rfl) ?_
              refine gcVv (As := [.int (nI q), .int (nI (rt Pl q (pa Pl q)))]) (rest := []) hx hb hml hown hts hl.1 hK (c_X7_clears l D o P7 S V T F h q (rt Pl q (pa Pl q)) (by first | assumption | omega) hs20) (gaV qM_X7_81 qI_X7_clears qS_X7_clears qK_X7 qC_X7_clears) hdv_X7_clears ⟨Nat.le_of_ble_eq_true rfl, Nat.le_of_ble_eq_true rfl⟩ hG (hG.recv hK) rfl (Nat.le_of_ble_eq_true rfl) ⟨Nat.zero_le _, Nat.zero_le _⟩ dX7_plows_251 hS hA (fun H locs hG _ _ hS => ?_)
              have hG : Md D o (fP_X7_clears P7 q (rt Pl q (pa Pl q))) S V T F h H := hG
              generalize eP8 : fP_X7_clears P7 q (rt Pl q (pa Pl q)) = P8 at hG
              refine lv_aload_n hx hb dX7_plows_254 rfl (lv_at hl 3 rfl) ?_
              refine lv_iload_n hx hb dX7_plows_255 rfl (lv_at hl 4 rfl) ?_
              refine gcVi (As := [.int (nI q)]) (rest := []) hx hb hml hown hts hl.1 hK (c_X7_goesOn l D o P8 S V T F h q (by first | assumption | omega)) (gaV qM_X7_78 qI_X7_goesOn qS_X7_goesOn qK_X7 qC_X7_goesOn) hdv_X7_goesOn ⟨Nat.le_of_ble_eq_true rfl, Nat.le_of_ble_eq_true rfl⟩ hG (hG.recv hK) rfl (Nat.le_of_ble_eq_true rfl) ⟨Nat.zero_le _, Nat.zero_le _⟩ dX7_plows_256 hS hA (fun H locs hG _ _ hS => ?_)
              have hG : Md D o (fP_X7_goesOn P8 q) S V T F h H := hG
              generalize eP9 : fP_X7_goesOn P8 q = P9 at hG
              refine lv_topi (fun x10 ex10 => ?_)
              refine lv_istore_n (lv' := [(3, .int x10), (4, .int x3), (6, .int x2), (5, .int (nI (rt Pl q (pa Pl q)))), (0, .ref o), (1, .int (nI q)), (2, .int (nI (169 + 20 * q)))]) hx hb dX7_plows_259 rfl hl (by decide) rfl (fun ls hl => ?_)
              refine lv_goto (tgt := 114) hx hb dX7_plows_260 (by decide) ?_
              subst ex10
              subst eP9
              subst eP8
              subst eP7
              subst ex6
              subst eP5
              subst ex4
              subst ex3
              subst ex2
              exact ih _ _ _ _ _ _ (by first | exact go_inv hW | exact go_inv2 hW (by omega) | exact Or.inr (Or.inl (left1 c244 hs20 rfl))) (by rw [hfP, fP_X7_plows_L114]; (try dsimp only); (try rw [if_neg c115, if_neg c120, if_neg c151, if_pos c244]); (try rfl)) hG hS (lv_sub hl [4, 5, 6, 0, 1] rfl)
          · refine lv_aload_n hx hb dX7_plows_154 rfl (lv_at hl 1 rfl) ?_
            refine lv_iload hx hb dX7_plows_155 (lv_at hl 0 rfl) ?_
            refine gcVi (As := [.int (nI (rt Pl q (pa Pl q)))]) (rest := []) hx hb hml hown hts hl.1 hK (c_X7_isDue l D o Pl S V T F h (rt Pl q (pa Pl q)) hs20 hrs) (gaV qM_X7_75 qI_X7_isDue qS_X7_isDue qK_X7 qC_X7_isDue) hdv_X7_isDue ⟨Nat.le_of_ble_eq_true rfl, Nat.le_of_ble_eq_true rfl⟩ hG (hG.recv hK) rfl (Nat.le_of_ble_eq_true rfl) ⟨Nat.zero_le _, Nat.zero_le _⟩ dX7_plows_157 hS hA (fun H locs hG _ _ hS => ?_)
            have hG : Md D o Pl S V T F h H := hG
            refine lv_if_ne (tgt := 172) hx hb dX7_plows_160 (by decide) (fun c160 => ?_) (fun c160 => ?_)
            · refine lv_iload hx hb dX7_plows_172 (lv_at hl 5 rfl) ?_
              refine lv_aload_n hx hb dX7_plows_174 rfl (lv_at hl 1 rfl) ?_
              refine lv_iload hx hb dX7_plows_175 (lv_at hl 0 rfl) ?_
              refine lv_iconst (v := 0) hx hb dX7_plows_177 (by decide) ?_
              refine gcVi (As := [.int (nI (rt Pl q (pa Pl q))), .int 0]) (rest := [.int mt]) hx hb hml hown hts hl.1 hK (c_X7_of l D o Pl S V T F h (rt Pl q (pa Pl q)) 0 hs20 (by first | assumption | omega)) (gaV qM_X7_41 qI_X7_of qS_X7_of qK_X7 qC_X7_of) hdv_X7_of ⟨Nat.le_of_ble_eq_true rfl, Nat.le_of_ble_eq_true rfl⟩ hG (hG.recv hK) rfl (Nat.le_of_ble_eq_true rfl) ⟨Nat.zero_le _, Nat.zero_le _⟩ dX7_plows_178 hS hA (fun H locs hG _ _ hS => ?_)
              have hG : Md D o Pl S V T F h H := hG
              refine lv_aload_n hx hb dX7_plows_181 rfl (lv_at hl 1 rfl) ?_
              refine getMm hx hb hts hown hK hG qF_X7_7 dX7_plows_182 ?_
              refine lv_iload_n hx hb dX7_plows_185 rfl (lv_at hl 3 rfl) ?_
              refine lv_iconst (v := 5) hx hb dX7_plows_186 (by decide) ?_
              refine iaddN (a := 169 + 20 * q) (b := 5) hx hb dX7_plows_187 ?_
              refine aldMm (k := 169 + 20 * q + 5) hx hb hK hG (by omega) dX7_plows_188 ?_
              refine lv_isub hx hb dX7_plows_189 ?_
              refine gcSi (As := [.int mt, .int ((fR_X7_of Pl (rt Pl q (pa Pl q)) 0) - (Pl (169 + 20 * q + 5)))]) (rest := []) hx hb hml hown hts hl.1 hK (c_X7_lesser l D (fun H => Md D o Pl S V T F h H) mt ((fR_X7_of Pl (rt Pl q (pa Pl q)) 0) - (Pl (169 + 20 * q + 5)))) (gaS qM_X7_72 qT_X7_lesser qK_X7 qC_X7_lesser) hds_X7_lesser ⟨Nat.le_of_ble_eq_true rfl, Nat.le_of_ble_eq_true rfl⟩ hG rfl (Nat.le_of_ble_eq_true rfl) ⟨Nat.zero_le _, Nat.zero_le _⟩ dX7_plows_190 hS (fun _ (h : noA _) => False.elim h) (fun H locs hG _ _ hS => ?_)
              have hG : Md D o Pl S V T F h H := hG
              refine lv_topi (fun x11 ex11 => ?_)
              refine lv_istore (lv' := [(6, .int x11), (5, .int (nI (rt Pl q (pa Pl q)))), (0, .ref o), (1, .int (nI q)), (2, .int (nI (169 + 20 * q))), (3, .int mo), (4, .int mt)]) hx hb dX7_plows_193 hl (by decide) rfl (fun ls hl => ?_)
              refine lv_iload hx hb dX7_plows_195 (lv_at hl 6 rfl) ?_
              refine lv_iload hx hb dX7_plows_197 (lv_at hl 0 rfl) ?_
              refine lv_isub hx hb dX7_plows_199 ?_
              refine lv_topi (fun x12 ex12 => ?_)
              refine lv_istore (lv' := [(4, .int x12), (6, .int x11), (5, .int (nI (rt Pl q (pa Pl q)))), (0, .ref o), (1, .int (nI q)), (2, .int (nI (169 + 20 * q))), (3, .int mo)]) hx hb dX7_plows_200 hl (by decide) rfl (fun ls hl => ?_)
              refine lv_aload_n hx hb dX7_plows_202 rfl (lv_at hl 3 rfl) ?_
              refine getMm hx hb hts hown hK hG qF_X7_7 dX7_plows_203 ?_
              refine lv_iload_n hx hb dX7_plows_206 rfl (lv_at hl 5 rfl) ?_
              refine lv_iconst (v := 5) hx hb dX7_plows_207 (by decide) ?_
              refine iaddN (a := 169 + 20 * q) (b := 5) hx hb dX7_plows_208 ?_
              refine lv_dup2_11 hx hb dX7_plows_209 rfl rfl ?_
              refine aldMm (k := 169 + 20 * q + 5) hx hb hK hG (by omega) dX7_plows_210 ?_
              refine lv_iload hx hb dX7_plows_211 (lv_at hl 1 rfl) ?_
              refine lv_iadd hx hb dX7_plows_213 ?_
              refine lv_topi (fun x13 ex13 => ?_)
              refine astMm (k := 169 + 20 * q + 5) hx hb hK hG hS hA (by omega) dX7_plows_214 (fun H locs hG hS => ?_)
              generalize eP14 : upd Pl (169 + 20 * q + 5) x13 = P14 at hG
              refine lv_aload_n hx hb dX7_plows_215 rfl (lv_at hl 3 rfl) ?_
              refine getMm hx hb hts hown hK hG qF_X7_7 dX7_plows_216 ?_
              refine lv_iload_n hx hb dX7_plows_219 rfl (lv_at hl 5 rfl) ?_
              refine lv_bipush (v := 7) hx hb dX7_plows_220 (by decide) ?_
              refine iaddN (a := 169 + 20 * q) (b := 7) hx hb dX7_plows_222 ?_
              refine lv_dup2_11 hx hb dX7_plows_223 rfl rfl ?_
              refine aldMm (k := 169 + 20 * q + 7) hx hb hK hG (by omega) dX7_plows_224 ?_
              refine lv_iload hx hb dX7_plows_225 (lv_at hl 1 rfl) ?_
              refine lv_iadd hx hb dX7_plows_227 ?_
              refine lv_topi (fun x15 ex15 => ?_)
              refine astMm (k := 169 + 20 * q + 7) hx hb hK hG hS hA (by omega) dX7_plows_228 (fun H locs hG hS => ?_)
              generalize eP16 : upd P14 (169 + 20 * q + 7) x15 = P16 at hG
              refine lv_aload_n hx hb dX7_plows_229 rfl (lv_at hl 3 rfl) ?_
              refine getMm hx hb hts hown hK hG qF_X7_7 dX7_plows_230 ?_
              refine lv_iload_n hx hb dX7_plows_233 rfl (lv_at hl 5 rfl) ?_
              refine lv_iconst (v := 5) hx hb dX7_plows_234 (by decide) ?_
              refine iaddN (a := 169 + 20 * q) (b := 5) hx hb dX7_plows_235 ?_
              refine aldMm (k := 169 + 20 * q + 5) hx hb hK hG (by omega) dX7_plows_236 ?_
              refine lv_aload_n hx hb dX7_plows_237 rfl (lv_at hl 3 rfl) ?_
              refine lv_iload hx hb dX7_plows_238 (lv_at hl 2 rfl) ?_
              refine lv_iconst (v := 0) hx hb dX7_plows_240 (by decide) ?_
              refine gcVi (As := [.int (nI (rt Pl q (pa Pl q))), .int 0]) (rest := [.int (P16 (169 + 20 * q + 5))]) hx hb hml hown hts hl.1 hK (c_X7_of l D o P16 S V T F h (rt Pl q (pa Pl q)) 0 hs20 (by first | assumption | omega)) (gaV qM_X7_41 qI_X7_of qS_X7_of qK_X7 qC_X7_of) hdv_X7_of ⟨Nat.le_of_ble_eq_true rfl, Nat.le_of_ble_eq_true rfl⟩ hG (hG.recv hK) rfl (Nat.le_of_ble_eq_true rfl) ⟨Nat.zero_le _, Nat.zero_le _⟩ dX7_plows_241 hS hA (fun H locs hG _ _ hS => ?_)
              have hG : Md D o P16 S V T F h H := hG
              refine lv_icmp_ne (tgt := 260) hx hb dX7_plows_244 (by decide) (fun c244 => ?_) (fun c244 => ?_)
              · refine lv_goto (tgt := 114) hx hb dX7_plows_260 (by decide) ?_
                subst eP16
                subst ex15
                subst eP14
                subst ex13
                subst ex12
                subst ex11
                exact ih _ _ _ _ _ _ (by first | exact go_inv hW | exact go_inv2 hW (by omega) | exact Or.inr (Or.inl (left1 c244 hs20 rfl))) (by rw [hfP, fP_X7_plows_L114]; (try dsimp only); (try rw [if_neg c115, if_neg c120, if_pos c151, if_neg c160, if_neg c244]); (try rfl)) hG hS (lv_sub hl [3, 4, 5, 6, 0] rfl)
              · refine lv_aload_n hx hb dX7_plows_247 rfl (lv_at hl 3 rfl) ?_
                refine lv_iload_n hx hb dX7_plows_248 rfl (lv_at hl 4 rfl) ?_
                refine lv_iload hx hb dX7_plows_249 (lv_at hl 2 rfl) ?_
                refine gcVv (As := [.int (nI q), .int (nI (rt Pl q (pa Pl q)))]) (rest := []) hx hb hml hown hts hl.1 hK (c_X7_clears l D o P16 S V T F h q (rt Pl q (pa Pl q)) (by first | assumption | omega) hs20) (gaV qM_X7_81 qI_X7_clears qS_X7_clears qK_X7 qC_X7_clears) hdv_X7_clears ⟨Nat.le_of_ble_eq_true rfl, Nat.le_of_ble_eq_true rfl⟩ hG (hG.recv hK) rfl (Nat.le_of_ble_eq_true rfl) ⟨Nat.zero_le _, Nat.zero_le _⟩ dX7_plows_251 hS hA (fun H locs hG _ _ hS => ?_)
                have hG : Md D o (fP_X7_clears P16 q (rt Pl q (pa Pl q))) S V T F h H := hG
                generalize eP17 : fP_X7_clears P16 q (rt Pl q (pa Pl q)) = P17 at hG
                refine lv_aload_n hx hb dX7_plows_254 rfl (lv_at hl 3 rfl) ?_
                refine lv_iload_n hx hb dX7_plows_255 rfl (lv_at hl 4 rfl) ?_
                refine gcVi (As := [.int (nI q)]) (rest := []) hx hb hml hown hts hl.1 hK (c_X7_goesOn l D o P17 S V T F h q (by first | assumption | omega)) (gaV qM_X7_78 qI_X7_goesOn qS_X7_goesOn qK_X7 qC_X7_goesOn) hdv_X7_goesOn ⟨Nat.le_of_ble_eq_true rfl, Nat.le_of_ble_eq_true rfl⟩ hG (hG.recv hK) rfl (Nat.le_of_ble_eq_true rfl) ⟨Nat.zero_le _, Nat.zero_le _⟩ dX7_plows_256 hS hA (fun H locs hG _ _ hS => ?_)
                have hG : Md D o (fP_X7_goesOn P17 q) S V T F h H := hG
                generalize eP18 : fP_X7_goesOn P17 q = P18 at hG
                refine lv_topi (fun x19 ex19 => ?_)
                refine lv_istore_n (lv' := [(3, .int x19), (4, .int x12), (6, .int x11), (5, .int (nI (rt Pl q (pa Pl q)))), (0, .ref o), (1, .int (nI q)), (2, .int (nI (169 + 20 * q)))]) hx hb dX7_plows_259 rfl hl (by decide) rfl (fun ls hl => ?_)
                refine lv_goto (tgt := 114) hx hb dX7_plows_260 (by decide) ?_
                subst ex19
                subst eP18
                subst eP17
                subst eP16
                subst ex15
                subst eP14
                subst ex13
                subst ex12
                subst ex11
                exact ih _ _ _ _ _ _ (by first | exact go_inv hW | exact go_inv2 hW (by omega) | exact Or.inr (Or.inl (left1 c244 hs20 rfl))) (by rw [hfP, fP_X7_plows_L114]; (try dsimp only); (try rw [if_neg c115, if_neg c120, if_pos c151, if_neg c160, if_pos c244]); (try rfl)) hG hS (lv_sub hl [4, 5, 6, 0, 1] rfl)
            · refine lv_aload_n hx hb dX7_plows_163 rfl (lv_at hl 1 rfl) ?_
              refine lv_iload_n hx hb dX7_plows_164 rfl (lv_at hl 2 rfl) ?_
              refine gcVi (As := [.int (nI q)]) (rest := []) hx hb hml hown hts hl.1 hK (c_X7_goesOn l D o Pl S V T F h q (by first | assumption | omega)) (gaV qM_X7_78 qI_X7_goesOn qS_X7_goesOn qK_X7 qC_X7_goesOn) hdv_X7_goesOn ⟨Nat.le_of_ble_eq_true rfl, Nat.le_of_ble_eq_true rfl⟩ hG (hG.recv hK) rfl (Nat.le_of_ble_eq_true rfl) ⟨Nat.zero_le _, Nat.zero_le _⟩ dX7_plows_165 hS hA (fun H locs hG _ _ hS => ?_)
              have hG : Md D o (fP_X7_goesOn Pl q) S V T F h H := hG
              generalize eP20 : fP_X7_goesOn Pl q = P20 at hG
              refine lv_topi (fun x21 ex21 => ?_)
              refine lv_istore_n (lv' := [(3, .int x21), (5, .int (nI (rt Pl q (pa Pl q)))), (0, .ref o), (1, .int (nI q)), (2, .int (nI (169 + 20 * q))), (4, .int mt)]) hx hb dX7_plows_168 rfl hl (by decide) rfl (fun ls hl => ?_)
              refine lv_goto (tgt := 260) hx hb dX7_plows_169 (by decide) ?_
              refine lv_goto (tgt := 114) hx hb dX7_plows_260 (by decide) ?_
              subst ex21
              subst eP20
              exact ih _ _ _ _ _ _ (by first | exact go_inv hW | exact go_inv2 hW (by omega) | exact Or.inr (Or.inl (left1 c244 hs20 rfl))) (by rw [hfP, fP_X7_plows_L114]; (try dsimp only); (try rw [if_neg c115, if_neg c120, if_pos c151, if_pos c160]); (try rfl)) hG hS (lv_sub hl [2, 3, 4, 0, 5] rfl)
  refine lv_sipush (v := 169) hx hb dX7_plows_0 (by decide) ?_
  refine lv_bipush (v := 20) hx hb dX7_plows_3 (by decide) ?_
  refine lv_iload_n hx hb dX7_plows_5 rfl (lv_at hl 1 rfl) ?_
  refine imulN (a := 20) (b := q) hx hb dX7_plows_6 ?_
  refine iaddN (a := 169) (b := 20 * q) hx hb dX7_plows_7 ?_
  refine lv_istore_n (lv' := [(2, .int (nI (169 + 20 * q))), (0, .ref o), (1, .int (nI q))]) hx hb dX7_plows_8 rfl hl (by decide) rfl (fun ls hl => ?_)
  refine lv_aload_n hx hb dX7_plows_9 rfl (lv_at hl 1 rfl) ?_
  refine getMm hx hb hts hown hK hG qF_X7_7 dX7_plows_10 ?_
  refine lv_iload_n hx hb dX7_plows_13 rfl (lv_at hl 0 rfl) ?_
  refine lv_iconst (v := 3) hx hb dX7_plows_14 (by decide) ?_
  refine iaddN (a := 169 + 20 * q) (b := 3) hx hb dX7_plows_15 ?_
  refine aldMm (k := 169 + 20 * q + 3) hx hb hK hG (by omega) dX7_plows_16 ?_
  refine lv_if_le (tgt := 24) hx hb dX7_plows_17 (by decide) (fun c17 => ?_) (fun c17 => ?_)
  · refine lv_iconst (v := 0) hx hb dX7_plows_24 (by decide) ?_
    refine lv_istore_n (lv' := [(3, .int 0), (2, .int (nI (169 + 20 * q))), (0, .ref o), (1, .int (nI q))]) hx hb dX7_plows_25 rfl hl (by decide) rfl (fun ls hl => ?_)
    refine lv_iload_n hx hb dX7_plows_26 rfl (lv_at hl 0 rfl) ?_
    refine lv_if_eq (tgt := 104) hx hb dX7_plows_27 (by decide) (fun c27 => ?_) (fun c27 => ?_)
    · refine lv_aload_n hx hb dX7_plows_104 rfl (lv_at hl 2 rfl) ?_
      refine getMm hx hb hts hown hK hG qF_X7_7 dX7_plows_105 ?_
      refine lv_iload_n hx hb dX7_plows_108 rfl (lv_at hl 1 rfl) ?_
      refine lv_iconst (v := 0) hx hb dX7_plows_109 (by decide) ?_
      refine iaddN (a := 169 + 20 * q) (b := 0) hx hb dX7_plows_110 ?_
      refine aldMm (k := 169 + 20 * q + 0) hx hb hK hG (by omega) dX7_plows_111 ?_
      refine lv_topi (fun x1 ex1 => ?_)
      refine lv_istore (lv' := [(4, .int x1), (3, .int 0), (2, .int (nI (169 + 20 * q))), (0, .ref o), (1, .int (nI q))]) hx hb dX7_plows_112 hl (by decide) rfl (fun ls hl => ?_)
      subst ex1
      exact L114 12 _ _ _ _ _ _ (by first | exact Or.inl rfl | exact Or.inr (Or.inr (plows_i (hW0 c17))) | exact Or.inr (Or.inr (plows_j (hW0 c17)))) (by unfold fP_X7_plows; (try dsimp only); (try rw [if_pos c17]); (try rfl)) hG hS (lv_sub hl [3, 4, 2, 1, 0] rfl)
    · exact absurd c27 (by decide)
  · refine lv_iconst (v := 1) hx hb dX7_plows_20 (by decide) ?_
    refine lv_goto (tgt := 25) hx hb dX7_plows_21 (by decide) ?_
    refine lv_istore_n (lv' := [(3, .int 1), (2, .int (nI (169 + 20 * q))), (0, .ref o), (1, .int (nI q))]) hx hb dX7_plows_25 rfl hl (by decide) rfl (fun ls hl => ?_)
    refine lv_iload_n hx hb dX7_plows_26 rfl (lv_at hl 0 rfl) ?_
    refine lv_if_eq (tgt := 104) hx hb dX7_plows_27 (by decide) (fun c27 => ?_) (fun c27 => ?_)
    · exact absurd c27 (by decide)
    · refine lv_aload_n hx hb dX7_plows_30 rfl (lv_at hl 2 rfl) ?_
      refine getMm hx hb hts hown hK hG qF_X7_7 dX7_plows_31 ?_
      refine lv_iload_n hx hb dX7_plows_34 rfl (lv_at hl 1 rfl) ?_
      refine lv_iconst (v := 4) hx hb dX7_plows_35 (by decide) ?_
      refine iaddN (a := 169 + 20 * q) (b := 4) hx hb dX7_plows_36 ?_
      refine aldMm (k := 169 + 20 * q + 4) hx hb hK hG (by omega) dX7_plows_37 ?_
      refine lv_if_ne (tgt := 104) hx hb dX7_plows_38 (by decide) (fun c38 => ?_) (fun c38 => ?_)
      · refine lv_aload_n hx hb dX7_plows_104 rfl (lv_at hl 2 rfl) ?_
        refine getMm hx hb hts hown hK hG qF_X7_7 dX7_plows_105 ?_
        refine lv_iload_n hx hb dX7_plows_108 rfl (lv_at hl 1 rfl) ?_
        refine lv_iconst (v := 0) hx hb dX7_plows_109 (by decide) ?_
        refine iaddN (a := 169 + 20 * q) (b := 0) hx hb dX7_plows_110 ?_
        refine aldMm (k := 169 + 20 * q + 0) hx hb hK hG (by omega) dX7_plows_111 ?_
        refine lv_topi (fun x22 ex22 => ?_)
        refine lv_istore (lv' := [(4, .int x22), (3, .int 1), (2, .int (nI (169 + 20 * q))), (0, .ref o), (1, .int (nI q))]) hx hb dX7_plows_112 hl (by decide) rfl (fun ls hl => ?_)
        subst ex22
        exact L114 12 _ _ _ _ _ _ (by first | exact Or.inl rfl | exact Or.inr (Or.inr (plows_i (hW0 c17))) | exact Or.inr (Or.inr (plows_j (hW0 c17)))) (by unfold fP_X7_plows; (try dsimp only); (try rw [if_neg c17, if_neg c38]); (try rfl)) hG hS (lv_sub hl [3, 4, 2, 1, 0] rfl)
      · refine lv_aload_n hx hb dX7_plows_41 rfl (lv_at hl 2 rfl) ?_
        refine getMm hx hb hts hown hK hG qF_X7_7 dX7_plows_42 ?_
        refine lv_iload_n hx hb dX7_plows_45 rfl (lv_at hl 1 rfl) ?_
        refine lv_iconst (v := 5) hx hb dX7_plows_46 (by decide) ?_
        refine iaddN (a := 169 + 20 * q) (b := 5) hx hb dX7_plows_47 ?_
        refine aldMm (k := 169 + 20 * q + 5) hx hb hK hG (by omega) dX7_plows_48 ?_
        refine lv_if_ne (tgt := 104) hx hb dX7_plows_49 (by decide) (fun c49 => ?_) (fun c49 => ?_)
        · refine lv_aload_n hx hb dX7_plows_104 rfl (lv_at hl 2 rfl) ?_
          refine getMm hx hb hts hown hK hG qF_X7_7 dX7_plows_105 ?_
          refine lv_iload_n hx hb dX7_plows_108 rfl (lv_at hl 1 rfl) ?_
          refine lv_iconst (v := 0) hx hb dX7_plows_109 (by decide) ?_
          refine iaddN (a := 169 + 20 * q) (b := 0) hx hb dX7_plows_110 ?_
          refine aldMm (k := 169 + 20 * q + 0) hx hb hK hG (by omega) dX7_plows_111 ?_
          refine lv_topi (fun x23 ex23 => ?_)
          refine lv_istore (lv' := [(4, .int x23), (3, .int 1), (2, .int (nI (169 + 20 * q))), (0, .ref o), (1, .int (nI q))]) hx hb dX7_plows_112 hl (by decide) rfl (fun ls hl => ?_)
          subst ex23
          exact L114 12 _ _ _ _ _ _ (by first | exact Or.inl rfl | exact Or.inr (Or.inr (plows_i (hW0 c17))) | exact Or.inr (Or.inr (plows_j (hW0 c17)))) (by unfold fP_X7_plows; (try dsimp only); (try rw [if_neg c17, if_pos c38, if_neg c49]); (try rfl)) hG hS (lv_sub hl [3, 4, 2, 1, 0] rfl)
        · refine lv_aload_n hx hb dX7_plows_52 rfl (lv_at hl 2 rfl) ?_
          refine getMm hx hb hts hown hK hG qF_X7_7 dX7_plows_53 ?_
          refine lv_iload_n hx hb dX7_plows_56 rfl (lv_at hl 1 rfl) ?_
          refine lv_iconst (v := 1) hx hb dX7_plows_57 (by decide) ?_
          refine iaddN (a := 169 + 20 * q) (b := 1) hx hb dX7_plows_58 ?_
          refine aldMm (k := 169 + 20 * q + 1) hx hb hK hG (by omega) dX7_plows_59 ?_
          refine lv_aload_n hx hb dX7_plows_60 rfl (lv_at hl 2 rfl) ?_
          refine getMm hx hb hts hown hK hG qF_X7_7 dX7_plows_61 ?_
          refine lv_iload_n hx hb dX7_plows_64 rfl (lv_at hl 1 rfl) ?_
          refine lv_iconst (v := 2) hx hb dX7_plows_65 (by decide) ?_
          refine iaddN (a := 169 + 20 * q) (b := 2) hx hb dX7_plows_66 ?_
          refine aldMm (k := 169 + 20 * q + 2) hx hb hK hG (by omega) dX7_plows_67 ?_
          refine lv_isub hx hb dX7_plows_68 ?_
          refine lv_aload_n hx hb dX7_plows_69 rfl (lv_at hl 2 rfl) ?_
          refine getMm hx hb hts hown hK hG qF_X7_7 dX7_plows_70 ?_
          refine lv_iconst (v := 3) hx hb dX7_plows_73 (by decide) ?_
          refine aldMm (k := 3) hx hb hK hG (by omega) dX7_plows_74 ?_
          refine gcSi (As := [.int ((P (169 + 20 * q + 1)) - (P (169 + 20 * q + 2))), .int (P 3)]) (rest := []) hx hb hml hown hts hl.1 hK (c_X7_lesser l D (fun H => Md D o P S V T F h H) ((P (169 + 20 * q + 1)) - (P (169 + 20 * q + 2))) (P 3)) (gaS qM_X7_72 qT_X7_lesser qK_X7 qC_X7_lesser) hds_X7_lesser ⟨Nat.le_of_ble_eq_true rfl, Nat.le_of_ble_eq_true rfl⟩ hG rfl (Nat.le_of_ble_eq_true rfl) ⟨Nat.zero_le _, Nat.zero_le _⟩ dX7_plows_75 hS (fun _ (h : noA _) => False.elim h) (fun H locs hG _ _ hS => ?_)
          have hG : Md D o P S V T F h H := hG
          refine lv_topi (fun x24 ex24 => ?_)
          refine lv_istore (lv' := [(4, .int x24), (3, .int 1), (2, .int (nI (169 + 20 * q))), (0, .ref o), (1, .int (nI q))]) hx hb dX7_plows_78 hl (by decide) rfl (fun ls hl => ?_)
          refine lv_aload_n hx hb dX7_plows_80 rfl (lv_at hl 3 rfl) ?_
          refine getMm hx hb hts hown hK hG qF_X7_7 dX7_plows_81 ?_
          refine lv_iload_n hx hb dX7_plows_84 rfl (lv_at hl 2 rfl) ?_
          refine lv_iconst (v := 2) hx hb dX7_plows_85 (by decide) ?_
          refine iaddN (a := 169 + 20 * q) (b := 2) hx hb dX7_plows_86 ?_
          refine lv_dup2_11 hx hb dX7_plows_87 rfl rfl ?_
          refine aldMm (k := 169 + 20 * q + 2) hx hb hK hG (by omega) dX7_plows_88 ?_
          refine lv_iload hx hb dX7_plows_89 (lv_at hl 0 rfl) ?_
          refine lv_iadd hx hb dX7_plows_91 ?_
          refine lv_topi (fun x25 ex25 => ?_)
          refine astMm (k := 169 + 20 * q + 2) hx hb hK hG hS hA (by omega) dX7_plows_92 (fun H locs hG hS => ?_)
          generalize eP26 : upd P (169 + 20 * q + 2) x25 = P26 at hG
          refine lv_aload_n hx hb dX7_plows_93 rfl (lv_at hl 3 rfl) ?_
          refine getMm hx hb hts hown hK hG qF_X7_7 dX7_plows_94 ?_
          refine lv_iconst (v := 3) hx hb dX7_plows_97 (by decide) ?_
          refine lv_dup2_11 hx hb dX7_plows_98 rfl rfl ?_
          refine aldMm (k := 3) hx hb hK hG (by omega) dX7_plows_99 ?_
          refine lv_iload hx hb dX7_plows_100 (lv_at hl 0 rfl) ?_
          refine lv_isub hx hb dX7_plows_102 ?_
          refine lv_topi (fun x27 ex27 => ?_)
          refine astMm (k := 3) hx hb hK hG hS hA (by omega) dX7_plows_103 (fun H locs hG hS => ?_)
          generalize eP28 : upd P26 3 x27 = P28 at hG
          refine lv_aload_n hx hb dX7_plows_104 rfl (lv_at hl 3 rfl) ?_
          refine getMm hx hb hts hown hK hG qF_X7_7 dX7_plows_105 ?_
          refine lv_iload_n hx hb dX7_plows_108 rfl (lv_at hl 2 rfl) ?_
          refine lv_iconst (v := 0) hx hb dX7_plows_109 (by decide) ?_
          refine iaddN (a := 169 + 20 * q) (b := 0) hx hb dX7_plows_110 ?_
          refine aldMm (k := 169 + 20 * q + 0) hx hb hK hG (by omega) dX7_plows_111 ?_
          refine lv_topi (fun x29 ex29 => ?_)
          refine lv_istore (lv' := [(4, .int x29), (3, .int 1), (2, .int (nI (169 + 20 * q))), (0, .ref o), (1, .int (nI q))]) hx hb dX7_plows_112 hl (by decide) rfl (fun ls hl => ?_)
          subst ex29
          subst eP28
          subst ex27
          subst eP26
          subst ex25
          subst ex24
          exact L114 12 _ _ _ _ _ _ (by first | exact Or.inl rfl | exact Or.inr (Or.inr (plows_i (hW0 c17))) | exact Or.inr (Or.inr (plows_j (hW0 c17)))) (by unfold fP_X7_plows; (try dsimp only); (try rw [if_neg c17, if_pos c38, if_pos c49]); (try rfl)) hG hS (lv_sub hl [3, 4, 2, 1, 0] rfl)
