set_option maxHeartbeats 4000000 in
set_option maxRecDepth 100000 in
theorem c_X1_leastShortfallOf {l : Launch} {D : va_G} {C : Nat → ClassId} {q : Nat → Nat} {w : va_W} {g : Int → Int} (hw : PlW q C w g) (hg : Wf g) {pp : Int} (hp : 0 ≤ pp ∧ pp < 3) (hA : shA g pp) : CR l yX1_leastShortfallOf wsX1_leastShortfallOf 1 28 D C [.ref (q 16), .int (iI (pp))] (w) (.int (iI (leastV g pp))) := by
  obtain ⟨⟨k16, ln, nd, h16⟩, ⟨k17, f17, h17, e17⟩, ⟨k18, f18, h18, e18⟩, ⟨k19, f19, h19, e19⟩, ⟨k20, f20, h20, e20⟩, ⟨k21, f21, h21, e21⟩, ⟨k22, f22, h22, e22⟩, ⟨k23, f23, h23, e23⟩, ⟨k24, f24, h24, e24⟩, ⟨k25, f25, h25, e25⟩, ⟨k26, f26, h26, e26⟩, ⟨k27, f27, h27, e27⟩⟩ := id hw
  refine CR_of (cc := cX1_leastShortfallOf) (maxL := 8) (by decide) rfl (Nat.le_of_ble_eq_true rfl) ?_
  intro p e s m below meth c Q ls hx hb hml hown hts hK hNW hl hP hret
  have hl : lv_has ls 8 [(0, .ref (q 16)), (1, .int (iI (pp)))] := hl
  have n := Wf_n hg
  have hB : ∀ x : Int, 0 ≤ x → x < ((g 2).toNat : Nat) → lP g pp x → lB g x < 48 := fun x a b d => (lAB hg hA a (by omega) d).2.2.1
  refine lv_iconst (v := iI (0)) hx hb dX1_leastShortfallOf_0 rfl ?_
  refine lv_istore_n (lv' := [(2, .int (iI (0))), (0, .ref (q 16)), (1, .int (iI (pp)))]) hx hb dX1_leastShortfallOf_1 rfl hl (by decide) rfl (fun ls hl => ?_)
  refine lv_iconst (v := iI (0)) hx hb dX1_leastShortfallOf_2 rfl ?_
  refine lv_istore_n (lv' := [(3, .int (iI (0))), (2, .int (iI (0))), (0, .ref (q 16)), (1, .int (iI (pp)))]) hx hb dX1_leastShortfallOf_3 rfl hl (by decide) rfl (fun ls hl => ?_)
  refine lv_iconst (v := iI (0)) hx hb dX1_leastShortfallOf_4 rfl ?_
  refine lv_istore (lv' := [(4, .int (iI (0))), (3, .int (iI (0))), (2, .int (iI (0))), (0, .ref (q 16)), (1, .int (iI (pp)))]) hx hb dX1_leastShortfallOf_5 hl (by decide) rfl (fun ls hl => ?_)
  have L7 : ∀ (n : Nat) (u : Int) (cs : Int) (MM : Nat) (mm : Int → Int) (ls : Array Slot), (0 ≤ u ∧ u ≤ 48) → (cs = lC g pp u) → (MM < 256) → (GI g pp u mm MM) → ((48 - u).toNat < n) → (lv_has ls 8 [(4, .int (iI (u))), (3, .int (iI ((MM : Int)))), (2, .int (iI (cs))), (0, .ref (q 16)), (1, .int (iI (pp)))]) → W p l e (rmN 1 28) s m ([.ref (q 16), .int (iI (pp))] : List Value).toArray below meth c s.heap [] 0 0 Q (F0 m 7 ls []) := by
    intro n
    induction n with
    | zero => intro u cs MM mm ls h1 h2 hM h4 hn; exact absurd hn (Nat.not_lt_zero _)
    | succ n ih7 =>
      intro u cs MM mm ls h1 h2 hM h4 hn hl
      have hn7 := hn
      refine lv_iload hx hb dX1_leastShortfallOf_7 (lv_at hl 0 rfl) ?_
      refine lv_bipush (v := iI (48)) hx hb dX1_leastShortfallOf_9 (by decide) ?_
      refine j_icmp_ge (tgt := 97) hx hb dX1_leastShortfallOf_11 rfl ⟨by omega, by omega⟩ ⟨by decide, by decide⟩ (fun c11 => ?_) (fun c11 => ?_)
      · skip
        refine lv_iconst (v := iI (0)) hx hb dX1_leastShortfallOf_97 rfl ?_
        refine lv_istore (lv' := [(4, .int (iI (0))), (3, .int (iI ((MM : Int)))), (2, .int (iI (cs))), (0, .ref (q 16)), (1, .int (iI (pp)))]) hx hb dX1_leastShortfallOf_98 hl (by decide) rfl (fun ls hl => ?_)
        have L100 : ∀ (n : Nat) (i : Int) (c3 : Int) (ls : Array Slot), (0 ≤ i ∧ i ≤ g 2) → (c3 = lC g pp 48 + lU g mm pp i) → ((g 2 - i).toNat < n) → (lv_has ls 8 [(4, .int (iI (i))), (3, .int (iI ((MM : Int)))), (2, .int (iI (c3))), (0, .ref (q 16)), (1, .int (iI (pp)))]) → W p l e (rmN 1 28) s m ([.ref (q 16), .int (iI (pp))] : List Value).toArray below meth c s.heap [] 0 0 Q (F0 m 100 ls []) := by
          intro n
          induction n with
          | zero => intro i c3 ls i1 i2 hn; exact absurd hn (Nat.not_lt_zero _)
          | succ n ih100 =>
            intro i c3 ls i1 i2 hn hl
            have hn100 := hn
            refine lv_iload hx hb dX1_leastShortfallOf_100 (lv_at hl 0 rfl) ?_
            refine lv_aload_n hx hb dX1_leastShortfallOf_102 rfl (lv_at hl 3 rfl) ?_
            refine va_get (D := D) (ci := 1) (v := .int (iI (g 2))) (C := RX1) (T := TX1) (N := 17) hx hb hts (by decide +kernel) hown hK hP k16 h16 rfl 4 (by decide) (hts (.fieldLink RX1 58 "BreakSetter$Plan" "shifts" "I") (by decide +kernel)) (fun _ h9 => h9) rfl dX1_leastShortfallOf_103 ?_
            refine j_icmp_ge (tgt := 138) hx hb dX1_leastShortfallOf_106 rfl ⟨by omega, by omega⟩ ⟨by omega, by omega⟩ (fun c106 => ?_) (fun c106 => ?_)
            · skip
              refine lv_iload_n hx hb dX1_leastShortfallOf_138 rfl (lv_at hl 2 rfl) ?_
              exact hret ls 139 _ dX1_leastShortfallOf_139 (by rw [leastV_eq (GI_least hg hA (show GI g pp 48 mm MM by rw [← show u = 48 by omega]; exact h4)), i2, show i = g 2 by omega])
            · skip
              have b := Wf_sh hg (s := i) (by omega) (by omega)
              refine lv_aload_n hx hb dX1_leastShortfallOf_109 rfl (lv_at hl 3 rfl) ?_
              refine va_get (D := D) (ci := 1) (v := .ref (q 19)) (C := RX1) (T := TX1) (N := 17) hx hb hts (by decide +kernel) hown hK hP k16 h16 rfl 8 (by decide) (hts (.fieldLink RX1 25 "BreakSetter$Plan" "shiftPost" "[I") (by decide +kernel)) (fun _ h9 => h9) rfl dX1_leastShortfallOf_110 ?_
              refine lv_iload hx hb dX1_leastShortfallOf_113 (lv_at hl 0 rfl) ?_
              refine j_iald hx hb hK hP k19 1 h19 rfl ⟨by omega, by omega⟩ (Nat.le_of_ble_eq_true rfl) dX1_leastShortfallOf_115 ?_
              refine W_wen (y := iI (g (148 + 5 * i))) (congrArg iI (e19 i (by omega) (by omega))) ?_
              refine lv_iload_n hx hb dX1_leastShortfallOf_116 rfl (lv_at hl 4 rfl) ?_
              refine j_icmp_ne (tgt := 132) hx hb dX1_leastShortfallOf_117 rfl ⟨by omega, by omega⟩ ⟨by omega, by omega⟩ (fun c117 => ?_) (fun c117 => ?_)
              · skip
                refine j_iinc (k := 0) (lv' := [(4, .int (iI (i + 1))), (3, .int (iI ((MM : Int)))), (2, .int (iI (c3))), (0, .ref (q 16)), (1, .int (iI (pp)))]) hx hb dX1_leastShortfallOf_132 hl rfl (by decide) rfl (fun ls hl => ?_)
                refine lv_goto (tgt := 100) hx hb dX1_leastShortfallOf_135 rfl ?_
                exact ih100 (i + 1) c3 ls (by omega) (by show _ = lC g pp 48 + smI (fun x => bI (lP g pp x ∧ mm x = -1)) (i + 1); rw [smI_s _ i1.1]; show _ = lC g pp 48 + (lU g mm pp i + bI (lP g pp i ∧ mm i = -1)); (rw [bI_f (P := lP g pp i ∧ mm i = -1) (fun q => c117 q.1)]; omega; done)) (by omega) (lv_sub hl [0, 1, 2, 3, 4] rfl)
              · skip
                refine lv_iload_n hx hb dX1_leastShortfallOf_120 rfl (lv_at hl 1 rfl) ?_
                refine lv_iload hx hb dX1_leastShortfallOf_121 (lv_at hl 0 rfl) ?_
                refine lv_ishr hx hb dX1_leastShortfallOf_123 ?_
                refine lv_iconst (v := iI (1)) hx hb dX1_leastShortfallOf_124 rfl ?_
                refine lv_iand hx hb dX1_leastShortfallOf_125 ?_
                refine W_wen (y := iI (bI (MM.testBit (i).toNat = true))) (mk_bit hM (by omega) (by omega)) ?_
                refine j_ifneB (tgt := 132) hx hb dX1_leastShortfallOf_126 rfl (fun c126 => ?_) (fun c126 => ?_)
                · skip
                  refine j_iinc (k := 0) (lv' := [(4, .int (iI (i + 1))), (3, .int (iI ((MM : Int)))), (2, .int (iI (c3))), (0, .ref (q 16)), (1, .int (iI (pp)))]) hx hb dX1_leastShortfallOf_132 hl rfl (by decide) rfl (fun ls hl => ?_)
                  refine lv_goto (tgt := 100) hx hb dX1_leastShortfallOf_135 rfl ?_
                  exact ih100 (i + 1) c3 ls (by omega) (by show _ = lC g pp 48 + smI (fun x => bI (lP g pp x ∧ mm x = -1)) (i + 1); rw [smI_s _ i1.1]; show _ = lC g pp 48 + (lU g mm pp i + bI (lP g pp i ∧ mm i = -1)); first | (rw [bI_t (P := lP g pp i ∧ mm i = -1) ⟨c117, Classical.byContradiction fun q => c126 ((h4.2.2.2 i (by omega) (by omega)).mpr q)⟩]; omega; done) | (rw [bI_f (P := lP g pp i ∧ mm i = -1) (fun q => (h4.2.2.2 i (by omega) (by omega)).mp c126 q.2)]; omega; done) | (rw [bI_f (P := lP g pp i ∧ mm i = -1) (fun q => c117 q.1)]; omega; done)) (by omega) (lv_sub hl [0, 1, 2, 3, 4] rfl)
                · skip
                  refine j_iinc (k := 2) (lv' := [(2, .int (iI (c3 + 1))), (4, .int (iI (i))), (3, .int (iI ((MM : Int)))), (0, .ref (q 16)), (1, .int (iI (pp)))]) hx hb dX1_leastShortfallOf_129 hl rfl (by decide) rfl (fun ls hl => ?_)
                  refine j_iinc (k := 1) (lv' := [(4, .int (iI (i + 1))), (2, .int (iI (c3 + 1))), (3, .int (iI ((MM : Int)))), (0, .ref (q 16)), (1, .int (iI (pp)))]) hx hb dX1_leastShortfallOf_132 hl rfl (by decide) rfl (fun ls hl => ?_)
                  refine lv_goto (tgt := 100) hx hb dX1_leastShortfallOf_135 rfl ?_
                  exact ih100 (i + 1) (c3 + 1) ls (by omega) (by show _ = lC g pp 48 + smI (fun x => bI (lP g pp x ∧ mm x = -1)) (i + 1); rw [smI_s _ i1.1]; show _ = lC g pp 48 + (lU g mm pp i + bI (lP g pp i ∧ mm i = -1)); first | (rw [bI_t (P := lP g pp i ∧ mm i = -1) ⟨c117, Classical.byContradiction fun q => c126 ((h4.2.2.2 i (by omega) (by omega)).mpr q)⟩]; omega; done) | (rw [bI_f (P := lP g pp i ∧ mm i = -1) (fun q => (h4.2.2.2 i (by omega) (by omega)).mp c126 q.2)]; omega; done) | (rw [bI_f (P := lP g pp i ∧ mm i = -1) (fun q => c117 q.1)]; omega; done)) (by omega) (lv_sub hl [0, 2, 1, 3, 4] rfl)
        exact L100 _ 0 cs ls (by omega) (by rw [h2, show u = 48 by omega]; show _ = _ + (0 : Int); omega) (Nat.lt_succ_self _) (lv_sub hl [0, 1, 2, 3, 4] rfl)
      · skip
        have kr := lK_rng hg hp.1 hp.2 (t := u) (by omega) (by omega)
        refine lv_aload_n hx hb dX1_leastShortfallOf_14 rfl (lv_at hl 3 rfl) ?_
        refine va_get (D := D) (ci := 1) (v := .ref (q 18)) (C := RX1) (T := TX1) (N := 17) hx hb hts (by decide +kernel) hown hK hP k16 h16 rfl 7 (by decide) (hts (.fieldLink RX1 22 "BreakSetter$Plan" "duty" "[I") (by decide +kernel)) (fun _ h9 => h9) rfl dX1_leastShortfallOf_15 ?_
        refine lv_iload_n hx hb dX1_leastShortfallOf_18 rfl (lv_at hl 4 rfl) ?_
        refine lv_iload hx hb dX1_leastShortfallOf_19 (lv_at hl 0 rfl) ?_
        refine CR_callN (As := [.int (iI (pp)), .int (iI (u))]) (rest := [.ref (q 18)]) ⟨hx, hb, hml, hown, hts⟩ c_X6_cellOf ⟨va_cnB 2 hts ggX1_leastShortfallOf_X6_cellOf rfl rfl rfl hNW.1 (hts (.initialized RX6) (by decide +kernel)) (by decide +kernel) ⟨Nat.le_of_ble_eq_true rfl, Nat.le_of_ble_eq_true rfl⟩, hts (.static yX6_cellOf) (by decide +kernel), trivial⟩ hK hNW hP rfl hl.1 rfl (Nat.le_of_ble_eq_true rfl) dX1_leastShortfallOf_21 ⟨Nat.zero_le _, Nat.zero_le _⟩ ?_
        refine j_iald hx hb hK hP k18 1 h18 rfl ⟨by omega, by omega⟩ (Nat.le_of_ble_eq_true rfl) dX1_leastShortfallOf_24 ?_
        refine W_wen (y := iI (dtc g (pp * 48 + u))) (congrArg iI (e18 (pp * 48 + u) (by omega) (by omega))) ?_
        refine lv_aload_n hx hb dX1_leastShortfallOf_25 rfl (lv_at hl 3 rfl) ?_
        refine va_get (D := D) (ci := 1) (v := .ref (q 17)) (C := RX1) (T := TX1) (N := 17) hx hb hts (by decide +kernel) hown hK hP k16 h16 rfl 6 (by decide) (hts (.fieldLink RX1 18 "BreakSetter$Plan" "need" "[I") (by decide +kernel)) (fun _ h9 => h9) rfl dX1_leastShortfallOf_26 ?_
        refine lv_iload_n hx hb dX1_leastShortfallOf_29 rfl (lv_at hl 4 rfl) ?_
        refine lv_iload hx hb dX1_leastShortfallOf_30 (lv_at hl 0 rfl) ?_
        refine CR_callN (As := [.int (iI (pp)), .int (iI (u))]) (rest := [.ref (q 17), .int (iI (dtc g (pp * 48 + u)))]) ⟨hx, hb, hml, hown, hts⟩ c_X6_cellOf ⟨va_cnB 2 hts ggX1_leastShortfallOf_X6_cellOf rfl rfl rfl hNW.1 (hts (.initialized RX6) (by decide +kernel)) (by decide +kernel) ⟨Nat.le_of_ble_eq_true rfl, Nat.le_of_ble_eq_true rfl⟩, hts (.static yX6_cellOf) (by decide +kernel), trivial⟩ hK hNW hP rfl hl.1 rfl (Nat.le_of_ble_eq_true rfl) dX1_leastShortfallOf_32 ⟨Nat.zero_le _, Nat.zero_le _⟩ ?_
        refine j_iald hx hb hK hP k17 1 h17 rfl ⟨by omega, by omega⟩ (Nat.le_of_ble_eq_true rfl) dX1_leastShortfallOf_35 ?_
        refine W_wen (y := iI (g (4 + (pp * 48 + u)))) (congrArg iI (e17 (pp * 48 + u) (by omega) (by omega))) ?_
        refine j_isub hx hb dX1_leastShortfallOf_36 ?_
        refine W_wen (y := iI (lK g pp u)) (congrArg iI (by unfold lK; rw [dtc_at (by omega) (by omega), show 4 + (pp * 48 + u) = 4 + 48 * pp + u by omega])) ?_
        refine lv_istore (lv' := [(5, .int (iI (lK g pp u))), (4, .int (iI (u))), (3, .int (iI ((MM : Int)))), (2, .int (iI (cs))), (0, .ref (q 16)), (1, .int (iI (pp)))]) hx hb dX1_leastShortfallOf_37 hl (by decide) rfl (fun ls hl => ?_)
        refine lv_iload hx hb dX1_leastShortfallOf_39 (lv_at hl 0 rfl) ?_
        refine j_if_ge (tgt := 49) hx hb dX1_leastShortfallOf_41 rfl ⟨by omega, by omega⟩ (fun c41 => ?_) (fun c41 => ?_)
        · skip
          have J49 : ∀ (c2 : Int) (ls : Array Slot), (c2 = lC g pp (u + 1)) → (lv_has ls 8 [(5, .int (iI (lK g pp u))), (4, .int (iI (u))), (3, .int (iI ((MM : Int)))), (2, .int (iI (c2))), (0, .ref (q 16)), (1, .int (iI (pp)))]) → W p l e (rmN 1 28) s m ([.ref (q 16), .int (iI (pp))] : List Value).toArray below meth c s.heap [] 0 0 Q (F0 m 49 ls []) := by
            intro c2 ls j2 hl
            refine lv_iconst (v := iI (0)) hx hb dX1_leastShortfallOf_49 rfl ?_
            refine lv_istore (lv' := [(6, .int (iI (0))), (5, .int (iI (lK g pp u))), (4, .int (iI (u))), (3, .int (iI ((MM : Int)))), (2, .int (iI (c2))), (0, .ref (q 16)), (1, .int (iI (pp)))]) hx hb dX1_leastShortfallOf_50 hl (by decide) rfl (fun ls hl => ?_)
            have L52 : ∀ (n : Nat) (s9 : Int) (MM : Nat) (mm : Int → Int) (ls : Array Slot), (0 ≤ s9 ∧ s9 ≤ max (lK g pp u) 0) → (MM < 256) → (GJ g pp u s9 mm MM) → ((lK g pp u - s9).toNat < n) → (lv_has ls 8 [(6, .int (iI (s9))), (5, .int (iI (lK g pp u))), (4, .int (iI (u))), (3, .int (iI ((MM : Int)))), (2, .int (iI (c2))), (0, .ref (q 16)), (1, .int (iI (pp)))]) → W p l e (rmN 1 28) s m ([.ref (q 16), .int (iI (pp))] : List Value).toArray below meth c s.heap [] 0 0 Q (F0 m 52 ls []) := by
              intro n
              induction n with
              | zero => intro s9 MM mm ls s1 hM h5 hn; exact absurd hn (Nat.not_lt_zero _)
              | succ n ih52 =>
                intro s9 MM mm ls s1 hM h5 hn hl
                have hn52 := hn
                refine lv_iload hx hb dX1_leastShortfallOf_52 (lv_at hl 0 rfl) ?_
                refine lv_iload hx hb dX1_leastShortfallOf_54 (lv_at hl 1 rfl) ?_
                refine j_icmp_ge (tgt := 91) hx hb dX1_leastShortfallOf_56 rfl ⟨by omega, by omega⟩ ⟨by omega, by omega⟩ (fun c56 => ?_) (fun c56 => ?_)
                · skip
                  refine j_iinc (k := 2) (lv' := [(4, .int (iI (u + 1))), (6, .int (iI (s9))), (5, .int (iI (lK g pp u))), (3, .int (iI ((MM : Int)))), (2, .int (iI (c2))), (0, .ref (q 16)), (1, .int (iI (pp)))]) hx hb dX1_leastShortfallOf_91 hl rfl (by decide) rfl (fun ls hl => ?_)
                  refine lv_goto (tgt := 7) hx hb dX1_leastShortfallOf_94 rfl ?_
                  exact ih7 (u + 1) c2 MM mm ls (by omega) j2 hM (GJ_done (by omega) (by omega) hB h5 (by exact Or.inl (by omega))) (by omega) (lv_sub hl [0, 3, 4, 5, 6] rfl)
                · skip
                  refine lv_aload_n hx hb dX1_leastShortfallOf_59 rfl (lv_at hl 5 rfl) ?_
                  refine lv_iload_n hx hb dX1_leastShortfallOf_60 rfl (lv_at hl 6 rfl) ?_
                  refine lv_iload hx hb dX1_leastShortfallOf_61 (lv_at hl 2 rfl) ?_
                  refine lv_iload_n hx hb dX1_leastShortfallOf_63 rfl (lv_at hl 3 rfl) ?_
                  refine CR_callV (As := [.int (iI (pp)), .int (iI (u)), .int (iI ((MM : Int)))]) (rest := []) ⟨hx, hb, hml, hown, hts⟩ (c_X1_mostUrgentShift hw hg hp ⟨by omega, by omega⟩ hM hA) (cwV 3 hts gX1_leastShortfallOf_X1_mostUrgentShift rfl rfl rfl (by decide +kernel) ⟨Nat.le_of_ble_eq_true rfl, Nat.le_of_ble_eq_true rfl⟩) (q0 := k16) h16 rfl rfl hK hNW hP rfl hl.1 rfl (Nat.le_of_ble_eq_true rfl) dX1_leastShortfallOf_64 ⟨Nat.zero_le _, Nat.zero_le _⟩ ?_
                  refine lv_istore (lv' := [(7, .int (iI ((ugn g pp u MM (g 2).toNat).1))), (6, .int (iI (s9))), (5, .int (iI (lK g pp u))), (4, .int (iI (u))), (3, .int (iI ((MM : Int)))), (2, .int (iI (c2))), (0, .ref (q 16)), (1, .int (iI (pp)))]) hx hb dX1_leastShortfallOf_67 hl (by decide) rfl (fun ls hl => ?_)
                  have ux := ugn_ok (g := g) (p := pp) (t := u) (M := MM) (g 2).toNat hB
                  have ur : -1 ≤ (ugn g pp u MM (g 2).toNat).1 ∧ (ugn g pp u MM (g 2).toNat).1 < 8 := ux.elim (fun z => by rw [z.1]; exact ⟨by decide, by decide⟩) (fun z => ⟨by have := z.1; omega, by have := z.2.1; omega⟩)
                  refine lv_iload hx hb dX1_leastShortfallOf_69 (lv_at hl 0 rfl) ?_
                  refine lv_iconst (v := iI (-1)) hx hb dX1_leastShortfallOf_71 rfl ?_
                  refine j_icmp_ne (tgt := 78) hx hb dX1_leastShortfallOf_72 rfl ⟨by omega, by omega⟩ ⟨by decide, by decide⟩ (fun c72 => ?_) (fun c72 => ?_)
                  · skip
                    have gs := GJ_step (by omega) (by omega) hB h5 (by omega) c72
                    refine lv_iload_n hx hb dX1_leastShortfallOf_78 rfl (lv_at hl 4 rfl) ?_
                    refine lv_iconst (v := iI (1)) hx hb dX1_leastShortfallOf_79 rfl ?_
                    refine lv_iload hx hb dX1_leastShortfallOf_80 (lv_at hl 0 rfl) ?_
                    refine lv_ishl hx hb dX1_leastShortfallOf_82 ?_
                    refine lv_ior hx hb dX1_leastShortfallOf_83 ?_
                    refine W_wen (y := iI (((MM ||| 2 ^ (ugn g pp u MM (g 2).toNat).1.toNat : Nat) : Int))) (mk_set hM (by omega) (by omega)) ?_
                    refine lv_istore_n (lv' := [(3, .int (iI (((MM ||| 2 ^ (ugn g pp u MM (g 2).toNat).1.toNat : Nat) : Int)))), (7, .int (iI ((ugn g pp u MM (g 2).toNat).1))), (6, .int (iI (s9))), (5, .int (iI (lK g pp u))), (4, .int (iI (u))), (2, .int (iI (c2))), (0, .ref (q 16)), (1, .int (iI (pp)))]) hx hb dX1_leastShortfallOf_84 rfl hl (by decide) rfl (fun ls hl => ?_)
                    refine j_iinc (k := 2) (lv' := [(6, .int (iI (s9 + 1))), (3, .int (iI (((MM ||| 2 ^ (ugn g pp u MM (g 2).toNat).1.toNat : Nat) : Int)))), (7, .int (iI ((ugn g pp u MM (g 2).toNat).1))), (5, .int (iI (lK g pp u))), (4, .int (iI (u))), (2, .int (iI (c2))), (0, .ref (q 16)), (1, .int (iI (pp)))]) hx hb dX1_leastShortfallOf_85 hl rfl (by decide) rfl (fun ls hl => ?_)
                    refine lv_goto (tgt := 52) hx hb dX1_leastShortfallOf_88 rfl ?_
                    exact ih52 (s9 + 1) (MM ||| 2 ^ (ugn g pp u MM (g 2).toNat).1.toNat) (up mm (ugn g pp u MM (g 2).toNat).1 u) ls (by omega) (tb_lt hM (by omega)) gs.1 (by omega) (lv_sub hl [0, 3, 4, 1, 5, 6, 7] rfl)
                  · skip
                    refine lv_goto (tgt := 91) hx hb dX1_leastShortfallOf_75 rfl ?_
                    refine j_iinc (k := 3) (lv' := [(4, .int (iI (u + 1))), (7, .int (iI ((ugn g pp u MM (g 2).toNat).1))), (6, .int (iI (s9))), (5, .int (iI (lK g pp u))), (3, .int (iI ((MM : Int)))), (2, .int (iI (c2))), (0, .ref (q 16)), (1, .int (iI (pp)))]) hx hb dX1_leastShortfallOf_91 hl rfl (by decide) rfl (fun ls hl => ?_)
                    refine lv_goto (tgt := 7) hx hb dX1_leastShortfallOf_94 rfl ?_
                    exact ih7 (u + 1) c2 MM mm ls (by omega) j2 hM (GJ_done (by omega) (by omega) hB h5 (by first | exact Or.inr c72 | exact Or.inl (by omega))) (by omega) (lv_sub hl [0, 4, 5, 6, 7] rfl)
            exact L52 _ 0 MM mm ls (by omega) hM (GI_GJ (by omega) (by omega) h4) (Nat.lt_succ_self _) (lv_sub hl [0, 1, 2, 3, 4, 5, 6] rfl)
          exact J49 cs ls (by show _ = smI (fun t => max (0 - lK g pp t) 0) (u + 1); rw [smI_s _ h1.1]; show _ = lC g pp u + max (0 - lK g pp u) 0; omega)  (lv_sub hl [0, 1, 2, 3, 4, 5] rfl)
        · skip
          refine lv_iload_n hx hb dX1_leastShortfallOf_44 rfl (lv_at hl 3 rfl) ?_
          refine lv_iload hx hb dX1_leastShortfallOf_45 (lv_at hl 0 rfl) ?_
          refine j_isub hx hb dX1_leastShortfallOf_47 ?_
          refine lv_istore_n (lv' := [(2, .int (iI (cs - (lK g pp u)))), (5, .int (iI (lK g pp u))), (4, .int (iI (u))), (3, .int (iI ((MM : Int)))), (0, .ref (q 16)), (1, .int (iI (pp)))]) hx hb dX1_leastShortfallOf_48 rfl hl (by decide) rfl (fun ls hl => ?_)
          have J49 : ∀ (c2 : Int) (ls : Array Slot), (c2 = lC g pp (u + 1)) → (lv_has ls 8 [(2, .int (iI (c2))), (5, .int (iI (lK g pp u))), (4, .int (iI (u))), (3, .int (iI ((MM : Int)))), (0, .ref (q 16)), (1, .int (iI (pp)))]) → W p l e (rmN 1 28) s m ([.ref (q 16), .int (iI (pp))] : List Value).toArray below meth c s.heap [] 0 0 Q (F0 m 49 ls []) := by
            intro c2 ls j2 hl
            refine lv_iconst (v := iI (0)) hx hb dX1_leastShortfallOf_49 rfl ?_
            refine lv_istore (lv' := [(6, .int (iI (0))), (2, .int (iI (c2))), (5, .int (iI (lK g pp u))), (4, .int (iI (u))), (3, .int (iI ((MM : Int)))), (0, .ref (q 16)), (1, .int (iI (pp)))]) hx hb dX1_leastShortfallOf_50 hl (by decide) rfl (fun ls hl => ?_)
            have L52 : ∀ (n : Nat) (s9 : Int) (MM : Nat) (mm : Int → Int) (ls : Array Slot), (0 ≤ s9 ∧ s9 ≤ max (lK g pp u) 0) → (MM < 256) → (GJ g pp u s9 mm MM) → ((lK g pp u - s9).toNat < n) → (lv_has ls 8 [(6, .int (iI (s9))), (2, .int (iI (c2))), (5, .int (iI (lK g pp u))), (4, .int (iI (u))), (3, .int (iI ((MM : Int)))), (0, .ref (q 16)), (1, .int (iI (pp)))]) → W p l e (rmN 1 28) s m ([.ref (q 16), .int (iI (pp))] : List Value).toArray below meth c s.heap [] 0 0 Q (F0 m 52 ls []) := by
              intro n
              induction n with
              | zero => intro s9 MM mm ls s1 hM h5 hn; exact absurd hn (Nat.not_lt_zero _)
              | succ n ih52 =>
                intro s9 MM mm ls s1 hM h5 hn hl
                have hn52 := hn
                refine lv_iload hx hb dX1_leastShortfallOf_52 (lv_at hl 0 rfl) ?_
                refine lv_iload hx hb dX1_leastShortfallOf_54 (lv_at hl 2 rfl) ?_
                refine j_icmp_ge (tgt := 91) hx hb dX1_leastShortfallOf_56 rfl ⟨by omega, by omega⟩ ⟨by omega, by omega⟩ (fun c56 => ?_) (fun c56 => ?_)
                · skip
                  refine j_iinc (k := 3) (lv' := [(4, .int (iI (u + 1))), (6, .int (iI (s9))), (2, .int (iI (c2))), (5, .int (iI (lK g pp u))), (3, .int (iI ((MM : Int)))), (0, .ref (q 16)), (1, .int (iI (pp)))]) hx hb dX1_leastShortfallOf_91 hl rfl (by decide) rfl (fun ls hl => ?_)
                  refine lv_goto (tgt := 7) hx hb dX1_leastShortfallOf_94 rfl ?_
                  exact ih7 (u + 1) c2 MM mm ls (by omega) j2 hM (GJ_done (by omega) (by omega) hB h5 (by exact Or.inl (by omega))) (by omega) (lv_sub hl [0, 4, 2, 5, 6] rfl)
                · skip
                  refine lv_aload_n hx hb dX1_leastShortfallOf_59 rfl (lv_at hl 5 rfl) ?_
                  refine lv_iload_n hx hb dX1_leastShortfallOf_60 rfl (lv_at hl 6 rfl) ?_
                  refine lv_iload hx hb dX1_leastShortfallOf_61 (lv_at hl 3 rfl) ?_
                  refine lv_iload_n hx hb dX1_leastShortfallOf_63 rfl (lv_at hl 4 rfl) ?_
                  refine CR_callV (As := [.int (iI (pp)), .int (iI (u)), .int (iI ((MM : Int)))]) (rest := []) ⟨hx, hb, hml, hown, hts⟩ (c_X1_mostUrgentShift hw hg hp ⟨by omega, by omega⟩ hM hA) (cwV 3 hts gX1_leastShortfallOf_X1_mostUrgentShift rfl rfl rfl (by decide +kernel) ⟨Nat.le_of_ble_eq_true rfl, Nat.le_of_ble_eq_true rfl⟩) (q0 := k16) h16 rfl rfl hK hNW hP rfl hl.1 rfl (Nat.le_of_ble_eq_true rfl) dX1_leastShortfallOf_64 ⟨Nat.zero_le _, Nat.zero_le _⟩ ?_
                  refine lv_istore (lv' := [(7, .int (iI ((ugn g pp u MM (g 2).toNat).1))), (6, .int (iI (s9))), (2, .int (iI (c2))), (5, .int (iI (lK g pp u))), (4, .int (iI (u))), (3, .int (iI ((MM : Int)))), (0, .ref (q 16)), (1, .int (iI (pp)))]) hx hb dX1_leastShortfallOf_67 hl (by decide) rfl (fun ls hl => ?_)
                  have ux := ugn_ok (g := g) (p := pp) (t := u) (M := MM) (g 2).toNat hB
                  have ur : -1 ≤ (ugn g pp u MM (g 2).toNat).1 ∧ (ugn g pp u MM (g 2).toNat).1 < 8 := ux.elim (fun z => by rw [z.1]; exact ⟨by decide, by decide⟩) (fun z => ⟨by have := z.1; omega, by have := z.2.1; omega⟩)
                  refine lv_iload hx hb dX1_leastShortfallOf_69 (lv_at hl 0 rfl) ?_
                  refine lv_iconst (v := iI (-1)) hx hb dX1_leastShortfallOf_71 rfl ?_
                  refine j_icmp_ne (tgt := 78) hx hb dX1_leastShortfallOf_72 rfl ⟨by omega, by omega⟩ ⟨by decide, by decide⟩ (fun c72 => ?_) (fun c72 => ?_)
                  · skip
                    have gs := GJ_step (by omega) (by omega) hB h5 (by omega) c72
                    refine lv_iload_n hx hb dX1_leastShortfallOf_78 rfl (lv_at hl 5 rfl) ?_
                    refine lv_iconst (v := iI (1)) hx hb dX1_leastShortfallOf_79 rfl ?_
                    refine lv_iload hx hb dX1_leastShortfallOf_80 (lv_at hl 0 rfl) ?_
                    refine lv_ishl hx hb dX1_leastShortfallOf_82 ?_
                    refine lv_ior hx hb dX1_leastShortfallOf_83 ?_
                    refine W_wen (y := iI (((MM ||| 2 ^ (ugn g pp u MM (g 2).toNat).1.toNat : Nat) : Int))) (mk_set hM (by omega) (by omega)) ?_
                    refine lv_istore_n (lv' := [(3, .int (iI (((MM ||| 2 ^ (ugn g pp u MM (g 2).toNat).1.toNat : Nat) : Int)))), (7, .int (iI ((ugn g pp u MM (g 2).toNat).1))), (6, .int (iI (s9))), (2, .int (iI (c2))), (5, .int (iI (lK g pp u))), (4, .int (iI (u))), (0, .ref (q 16)), (1, .int (iI (pp)))]) hx hb dX1_leastShortfallOf_84 rfl hl (by decide) rfl (fun ls hl => ?_)
                    refine j_iinc (k := 2) (lv' := [(6, .int (iI (s9 + 1))), (3, .int (iI (((MM ||| 2 ^ (ugn g pp u MM (g 2).toNat).1.toNat : Nat) : Int)))), (7, .int (iI ((ugn g pp u MM (g 2).toNat).1))), (2, .int (iI (c2))), (5, .int (iI (lK g pp u))), (4, .int (iI (u))), (0, .ref (q 16)), (1, .int (iI (pp)))]) hx hb dX1_leastShortfallOf_85 hl rfl (by decide) rfl (fun ls hl => ?_)
                    refine lv_goto (tgt := 52) hx hb dX1_leastShortfallOf_88 rfl ?_
                    exact ih52 (s9 + 1) (MM ||| 2 ^ (ugn g pp u MM (g 2).toNat).1.toNat) (up mm (ugn g pp u MM (g 2).toNat).1 u) ls (by omega) (tb_lt hM (by omega)) gs.1 (by omega) (lv_sub hl [0, 3, 4, 5, 1, 6, 7] rfl)
                  · skip
                    refine lv_goto (tgt := 91) hx hb dX1_leastShortfallOf_75 rfl ?_
                    refine j_iinc (k := 4) (lv' := [(4, .int (iI (u + 1))), (7, .int (iI ((ugn g pp u MM (g 2).toNat).1))), (6, .int (iI (s9))), (2, .int (iI (c2))), (5, .int (iI (lK g pp u))), (3, .int (iI ((MM : Int)))), (0, .ref (q 16)), (1, .int (iI (pp)))]) hx hb dX1_leastShortfallOf_91 hl rfl (by decide) rfl (fun ls hl => ?_)
                    refine lv_goto (tgt := 7) hx hb dX1_leastShortfallOf_94 rfl ?_
                    exact ih7 (u + 1) c2 MM mm ls (by omega) j2 hM (GJ_done (by omega) (by omega) hB h5 (by first | exact Or.inr c72 | exact Or.inl (by omega))) (by omega) (lv_sub hl [0, 5, 3, 6, 7] rfl)
            exact L52 _ 0 MM mm ls (by omega) hM (GI_GJ (by omega) (by omega) h4) (Nat.lt_succ_self _) (lv_sub hl [0, 1, 2, 3, 4, 5, 6] rfl)
          exact J49 (cs - (lK g pp u)) ls (by show _ = smI (fun t => max (0 - lK g pp t) 0) (u + 1); rw [smI_s _ h1.1]; show _ = lC g pp u + max (0 - lK g pp u) 0; omega)  (lv_sub hl [0, 1, 2, 3, 4, 5] rfl)
  exact L7 _ 0 0 0 (fun _ => -1) ls (by omega) rfl (by decide) (GI_0 g pp) (Nat.lt_succ_self _) (lv_sub hl [0, 1, 2, 3, 4] rfl)

set_option maxHeartbeats 4000000 in
set_option maxRecDepth 100000 in
theorem c_X6_least {l : Launch} {D : va_G} {C : Nat → ClassId} {q : Nat → Nat} {w : va_W} {g : Int → Int} {lf cn len : Int} (hb9 : BsR q C w g lf cn len) (hg : Wf g) {pp : Int} (hp : R32 pp) : CR l yX6_least wsX6_least 2 55 D C [.ref (q 0), .int (iI (pp))] (w) (.int (iI (leastF g pp))) := by
  obtain ⟨⟨⟨⟨k16, ln, nd, h16⟩, ⟨k17, f17, h17, e17⟩, ⟨k18, f18, h18, e18⟩, ⟨k19, f19, h19, e19⟩, ⟨k20, f20, h20, e20⟩, ⟨k21, f21, h21, e21⟩, ⟨k22, f22, h22, e22⟩, ⟨k23, f23, h23, e23⟩, ⟨k24, f24, h24, e24⟩, ⟨k25, f25, h25, e25⟩, ⟨k26, f26, h26, e26⟩, ⟨k27, f27, h27, e27⟩⟩, ⟨k28, h28⟩, ⟨k29, f29, h29, e29⟩, ⟨k30, f30, h30, e30⟩⟩, ⟨k0, h0⟩, ⟨k34, nr, h34⟩, ⟨k1, h1⟩⟩ := id hb9
  refine CR_of (cc := cX6_least) (maxL := 2) (by decide) rfl (Nat.le_of_ble_eq_true rfl) ?_
  intro p e s m below meth c Q ls hx hb hml hown hts hK hNW hl hP hret
  have hl : lv_has ls 2 [(0, .ref (q 0)), (1, .int (iI (pp)))] := hl
  have n := Wf_n hg
  refine lv_aload_n hx hb dX6_least_0 rfl (lv_at hl 0 rfl) ?_
  refine va_get (D := D) (ci := 6) (v := .ref (q 16)) (C := RX6) (T := TX6) (N := 8) hx hb hts (by decide +kernel) hown hK hP k0 h0 rfl 3 (by decide) (hts (.fieldLink RX6 23 "BreakSetter" "plan" "LBreakSetter$Plan;") (by decide +kernel)) (fun _ h9 => h9) rfl dX6_least_1 ?_
  refine lv_iload_n hx hb dX6_least_4 rfl (lv_at hl 1 rfl) ?_
  refine CR_callV (As := [.int (iI (pp))]) (rest := []) ⟨hx, hb, hml, hown, hts⟩ (c_X1_hasPost hb9.1.1 hg hp) (cwV 1 hts gX6_least_X1_hasPost rfl rfl rfl (by decide +kernel) ⟨Nat.le_of_ble_eq_true rfl, Nat.le_of_ble_eq_true rfl⟩) (q0 := k16) h16 rfl rfl hK hNW hP rfl hl.1 rfl (Nat.le_of_ble_eq_true rfl) dX6_least_5 ⟨Nat.zero_le _, Nat.zero_le _⟩ ?_
  refine j_ifeqB (tgt := 33) hx hb dX6_least_8 rfl (fun c8 => ?_) (fun c8 => ?_)
  · skip
    refine lv_iconst (v := iI (-1)) hx hb dX6_least_33 rfl ?_
    exact hret ls 34 _ dX6_least_34 (by rw [leastF_f (by exact fun q => c8 q.1)])
  · skip
    refine lv_aload_n hx hb dX6_least_11 rfl (lv_at hl 0 rfl) ?_
    refine va_get (D := D) (ci := 6) (v := .ref (q 16)) (C := RX6) (T := TX6) (N := 8) hx hb hts (by decide +kernel) hown hK hP k0 h0 rfl 3 (by decide) (hts (.fieldLink RX6 23 "BreakSetter" "plan" "LBreakSetter$Plan;") (by decide +kernel)) (fun _ h9 => h9) rfl dX6_least_12 ?_
    refine lv_iload_n hx hb dX6_least_15 rfl (lv_at hl 1 rfl) ?_
    refine CR_callV (As := [.int (iI (pp))]) (rest := []) ⟨hx, hb, hml, hown, hts⟩ (c_X1_hasShortPausesAlone hb9.1.1 hg ⟨by omega, by omega⟩) (cwV 1 hts gX6_least_X1_hasShortPausesAlone rfl rfl rfl (by decide +kernel) ⟨Nat.le_of_ble_eq_true rfl, Nat.le_of_ble_eq_true rfl⟩) (q0 := k16) h16 rfl rfl hK hNW hP rfl hl.1 rfl (Nat.le_of_ble_eq_true rfl) dX6_least_16 ⟨Nat.zero_le _, Nat.zero_le _⟩ ?_
    refine j_ifeqB (tgt := 33) hx hb dX6_least_19 rfl (fun c19 => ?_) (fun c19 => ?_)
    · skip
      refine lv_iconst (v := iI (-1)) hx hb dX6_least_33 rfl ?_
      exact hret ls 34 _ dX6_least_34 (by rw [leastF_f (by first | exact fun q => c19 q.2 | exact fun q => c8 q.1)])
    · skip
      refine lv_aload_n hx hb dX6_least_22 rfl (lv_at hl 0 rfl) ?_
      refine va_get (D := D) (ci := 6) (v := .ref (q 16)) (C := RX6) (T := TX6) (N := 8) hx hb hts (by decide +kernel) hown hK hP k0 h0 rfl 3 (by decide) (hts (.fieldLink RX6 23 "BreakSetter" "plan" "LBreakSetter$Plan;") (by decide +kernel)) (fun _ h9 => h9) rfl dX6_least_23 ?_
      refine lv_iload_n hx hb dX6_least_26 rfl (lv_at hl 1 rfl) ?_
      refine CR_callV (As := [.int (iI (pp))]) (rest := []) ⟨hx, hb, hml, hown, hts⟩ (c_X1_leastShortfallOf hb9.1.1 hg ⟨by omega, by omega⟩ c19) (cwV 1 hts gX6_least_X1_leastShortfallOf rfl rfl rfl (by decide +kernel) ⟨Nat.le_of_ble_eq_true rfl, Nat.le_of_ble_eq_true rfl⟩) (q0 := k16) h16 rfl rfl hK hNW hP rfl hl.1 rfl (Nat.le_of_ble_eq_true rfl) dX6_least_27 ⟨Nat.zero_le _, Nat.zero_le _⟩ ?_
      refine lv_goto (tgt := 34) hx hb dX6_least_30 rfl ?_
      exact hret ls 34 _ dX6_least_34 (by unfold leastF; rw [if_pos ⟨c8, c19⟩])
