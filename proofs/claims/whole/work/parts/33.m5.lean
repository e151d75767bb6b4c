noncomputable def wayF (g : Int → Int) (p t : Int) : Int := if t < (cw g p (t + 1).toNat).2 then 9 else (cw g p (t + 1).toNat).1
theorem cw_st {g : Int → Int} (h : Wf g) {p x a t : Int} (h0 : 0 ≤ t) (h1 : t < 48) (e : cw g p t.toNat = (x, a)) (hs : sty g x t = Vf g x t) : cw g p (t + 1).toNat = (x, a) := by
  rw [cw_s h0, e]
  exact if_neg (fun q => q.2 (nxp_stay h h0 h1 hs))
theorem cw_go {g : Int → Int} (h : Wf g) {p x a t : Int} (h0 : 0 ≤ t) (h1 : t < 48) (e : cw g p t.toNat = (x, a)) (ha : a ≤ t) (hs : ¬ sty g x t = Vf g x t) : cw g p (t + 1).toNat = ((nxp g x t).2, t + g 1) := by
  rw [cw_s h0, e]
  exact if_pos ⟨ha, (nxp_walk h h0 h1 hs).2.2.1⟩
theorem cw_arr {g : Int → Int} (h : Wf g) {p x a t y : Int} (h0 : 0 ≤ t) (h1 : t < 48) (e : cw g p t.toNat = (x, a)) (ha : a ≤ t) (hs : ¬ sty g x t = Vf g x t) (hw : 1 ≤ g 1) (hy : y = (nxp g x t).2) : cw g p (t + g 1).toNat = (y, t + g 1) := by
  have z := cw_wait (by omega) (cw_go h h0 h1 e ha hs) (g 1 - 1).toNat (by omega)
  rw [show (t + 1).toNat + (g 1 - 1).toNat = (t + g 1).toNat by omega] at z
  rw [hy]
  exact z
theorem way_stay {g : Int → Int} (h : Wf g) {p x a t : Int} (h0 : 0 ≤ t) (h1 : t < 48) (e : cw g p t.toNat = (x, a)) (ha : a ≤ t) (hs : sty g x t = Vf g x t) : wayF g p t = x := by
  unfold wayF
  rw [cw_st h h0 h1 e hs]
  exact if_neg (fun q => by have q : t < a := q; omega)
theorem way_walk {g : Int → Int} (h : Wf g) {p x a t s : Int} (h0 : 0 ≤ t) (h1 : t < 48) (e : cw g p t.toNat = (x, a)) (ha : a ≤ t) (hs : ¬ sty g x t = Vf g x t) (s0 : t ≤ s) (s1 : s < t + g 1) : wayF g p s = 9 := by
  have z := cw_wait (by omega) (cw_go h h0 h1 e ha hs) (s - t).toNat (by omega)
  rw [show (t + 1).toNat + (s - t).toNat = (s + 1).toNat by omega] at z
  unfold wayF
  rw [z]
  exact if_pos s1
set_option maxHeartbeats 4000000 in
set_option maxRecDepth 100000 in
theorem c_X7_wayAt {l : Launch} {D : va_G} {C : Nat → ClassId} {q : Nat → Nat} {w : va_W} {g hq : Int → Int} (hh : HN q C w g hq) (hg : Wf g) (hok : ∀ p x : Int, 0 ≤ p → p < g 0 → 0 ≤ x → x ≤ 48 → hq (49 * p + x) = Vf g p x) {pp ss : Int} (hp : 0 ≤ pp ∧ pp < g 0) (hs : 0 ≤ ss ∧ ss < 48) : CR l yX7_wayAt wsX7_wayAt 7 156 D C [.ref (q 36), .int (iI (pp)), .int (iI (ss))] (w) (.int (iI (wayF g pp ss))) := by
  obtain ⟨k36, k38, k45, fs, h36, f11, h38, f22, h45⟩ := id hh
  refine CR_of (cc := cX7_wayAt) (maxL := 7) (by decide) rfl (Nat.le_of_ble_eq_true rfl) ?_
  intro p e s m below meth c Q ls hx hb hml hown hts hK hNW hl hP hret
  have hl : lv_has ls 7 [(0, .ref (q 36)), (1, .int (iI (pp))), (2, .int (iI (ss)))] := hl
  have n := Wf_n hg
  refine lv_iload_n hx hb dX7_wayAt_0 rfl (lv_at hl 1 rfl) ?_
  refine lv_istore_n (lv' := [(3, .int (iI (pp))), (0, .ref (q 36)), (1, .int (iI (pp))), (2, .int (iI (ss)))]) hx hb dX7_wayAt_1 rfl hl (by decide) rfl (fun ls hl => ?_)
  refine lv_iconst (v := iI (0)) hx hb dX7_wayAt_2 rfl ?_
  refine lv_istore (lv' := [(4, .int (iI (0))), (3, .int (iI (pp))), (0, .ref (q 36)), (1, .int (iI (pp))), (2, .int (iI (ss)))]) hx hb dX7_wayAt_3 hl (by decide) rfl (fun ls hl => ?_)
  have L5 : ∀ (n : Nat) (pw : Int) (tw : Int) (ls : Array Slot), ((0 ≤ tw ∧ tw ≤ ss) ∧ (0 ≤ pw ∧ pw < g 0)) → (∃ a : Int, cw g pp tw.toNat = (pw, a) ∧ a ≤ tw) → ((ss + 1 - tw).toNat < n) → (lv_has ls 7 [(4, .int (iI (tw))), (3, .int (iI (pw))), (0, .ref (q 36)), (1, .int (iI (pp))), (2, .int (iI (ss)))]) → W p l e (rmN 7 156) s m ([.ref (q 36), .int (iI (pp)), .int (iI (ss))] : List Value).toArray below meth c s.heap [] 0 0 Q (F0 m 5 ls []) := by
    intro n
    induction n with
    | zero => intro pw tw ls w1 w2 hn; exact absurd hn (Nat.not_lt_zero _)
    | succ n ih5 =>
      intro pw tw ls w1 w2 hn hl
      have hn5 := hn
      obtain ⟨a, wa, wb⟩ := w2
      have vr := Vf_r hg (p := pw) (t := tw) (by omega)
      have sr := sty_nn hg (p := pw) (t := tw) (by omega) (by omega)
      have sl := Vf_stay hg (p := pw) (t := tw) (by omega) (by omega)
      refine lv_iload hx hb dX7_wayAt_5 (lv_at hl 0 rfl) ?_
      refine lv_iload_n hx hb dX7_wayAt_7 rfl (lv_at hl 4 rfl) ?_
      refine j_icmp_gt (tgt := 123) hx hb dX7_wayAt_8 rfl ⟨by omega, by omega⟩ ⟨by omega, by omega⟩ (fun c8 => ?_) (fun c8 => ?_)
      · skip
        exact absurd c8 (by omega)
      · skip
        refine lv_aload_n hx hb dX7_wayAt_11 rfl (lv_at hl 2 rfl) ?_
        refine va_get (D := D) (ci := 7) (v := .ref (q 45)) (C := RX7) (T := TX7) (N := 23) hx hb hts (by decide +kernel) hown hK hP k36 h36 rfl 22 (by decide) (hts (.fieldLink RX7 96 "BreakSetterModel" "helps" "[I") (by decide +kernel)) (fun _ h9 => h9) f22 dX7_wayAt_12 ?_
        refine lv_bipush (v := iI (49)) hx hb dX7_wayAt_15 (by decide) ?_
        refine lv_iload_n hx hb dX7_wayAt_17 rfl (lv_at hl 1 rfl) ?_
        refine j_imul hx hb dX7_wayAt_18 ?_
        refine lv_iload hx hb dX7_wayAt_19 (lv_at hl 0 rfl) ?_
        refine j_iadd hx hb dX7_wayAt_21 ?_
        refine j_iald hx hb hK hP k45 1 h45 rfl ⟨by omega, by omega⟩ (Nat.le_of_ble_eq_true rfl) dX7_wayAt_22 ?_
        refine W_wen (y := iI (Vf g pw tw)) (congrArg iI (hok pw tw (by omega) (by omega) (by omega) (by omega))) ?_
        refine lv_istore (lv' := [(5, .int (iI (Vf g pw tw))), (4, .int (iI (tw))), (3, .int (iI (pw))), (0, .ref (q 36)), (1, .int (iI (pp))), (2, .int (iI (ss)))]) hx hb dX7_wayAt_23 hl (by decide) rfl (fun ls hl => ?_)
        refine lv_aload_n hx hb dX7_wayAt_25 rfl (lv_at hl 3 rfl) ?_
        refine lv_iload_n hx hb dX7_wayAt_26 rfl (lv_at hl 2 rfl) ?_
        refine lv_iload hx hb dX7_wayAt_27 (lv_at hl 1 rfl) ?_
        refine CR_callV (As := [.int (iI (pw)), .int (iI (tw))]) (rest := []) ⟨hx, hb, hml, hown, hts⟩ (c_X7_stays hh hg (by omega) (by omega) (fun _ _ _ => trivial)) (cwV 2 hts gX7_wayAt_X7_stays rfl rfl rfl (by decide +kernel) ⟨Nat.le_of_ble_eq_true rfl, Nat.le_of_ble_eq_true rfl⟩) (q0 := k36) h36 rfl rfl hK hNW hP rfl hl.1 rfl (Nat.le_of_ble_eq_true rfl) dX7_wayAt_29 ⟨Nat.zero_le _, Nat.zero_le _⟩ ?_
        refine W_wen (y := iI (sty g pw tw)) (congrArg iI (by unfold sty; rw [show 49 * pw + tw + 1 = 49 * pw + (tw + 1) by omega, hok pw (tw + 1) (by omega) (by omega) (by omega) (by omega)])) ?_
        refine lv_iload hx hb dX7_wayAt_32 (lv_at hl 0 rfl) ?_
        refine j_icmp_ne (tgt := 51) hx hb dX7_wayAt_34 rfl ⟨by omega, by omega⟩ ⟨by omega, by omega⟩ (fun c34 => ?_) (fun c34 => ?_)
        · skip
          have nw := nxp_walk hg (p := pw) (t := tw) (by omega) (by omega) c34
          refine lv_iload hx hb dX7_wayAt_51 (lv_at hl 1 rfl) ?_
          refine lv_aload_n hx hb dX7_wayAt_53 rfl (lv_at hl 3 rfl) ?_
          refine va_get (D := D) (ci := 7) (v := .ref (q 38)) (C := RX7) (T := TX7) (N := 23) hx hb hts (by decide +kernel) hown hK hP k36 h36 rfl 11 (by decide) (hts (.fieldLink RX7 74 "BreakSetterModel" "now" "[I") (by decide +kernel)) (fun _ h9 => h9) f11 dX7_wayAt_54 ?_
          refine lv_iconst (v := iI (1)) hx hb dX7_wayAt_57 rfl ?_
          refine j_iald hx hb hK hP k38 1 h38 rfl ⟨by omega, by omega⟩ (Nat.le_of_ble_eq_true rfl) dX7_wayAt_58 ?_
          refine j_iadd hx hb dX7_wayAt_59 ?_
          refine lv_istore (lv' := [(4, .int (iI (tw + (g 1)))), (5, .int (iI (Vf g pw tw))), (3, .int (iI (pw))), (0, .ref (q 36)), (1, .int (iI (pp))), (2, .int (iI (ss)))]) hx hb dX7_wayAt_60 hl (by decide) rfl (fun ls hl => ?_)
          refine lv_iload_n hx hb dX7_wayAt_62 rfl (lv_at hl 5 rfl) ?_
          refine lv_iload hx hb dX7_wayAt_63 (lv_at hl 0 rfl) ?_
          refine j_icmp_ge (tgt := 71) hx hb dX7_wayAt_65 rfl ⟨by omega, by omega⟩ ⟨by omega, by omega⟩ (fun c65 => ?_) (fun c65 => ?_)
          · skip
            refine lv_iconst (v := iI (0)) hx hb dX7_wayAt_71 rfl ?_
            refine lv_istore (lv' := [(6, .int (iI (0))), (4, .int (iI (tw + (g 1)))), (5, .int (iI (Vf g pw tw))), (3, .int (iI (pw))), (0, .ref (q 36)), (1, .int (iI (pp))), (2, .int (iI (ss)))]) hx hb dX7_wayAt_72 hl (by decide) rfl (fun ls hl => ?_)
            have L74 : ∀ (n : Nat) (x : Int) (ls : Array Slot), (0 ≤ x ∧ x ≤ (nxp g pw tw).2) → (((nxp g pw tw).2 - x).toNat < n) → (lv_has ls 7 [(6, .int (iI (x))), (4, .int (iI (tw + (g 1)))), (5, .int (iI (Vf g pw tw))), (3, .int (iI (pw))), (0, .ref (q 36)), (1, .int (iI (pp))), (2, .int (iI (ss)))]) → W p l e (rmN 7 156) s m ([.ref (q 36), .int (iI (pp)), .int (iI (ss))] : List Value).toArray below meth c s.heap [] 0 0 Q (F0 m 74 ls []) := by
              intro n
              induction n with
              | zero => intro x ls x1 hn; exact absurd hn (Nat.not_lt_zero _)
              | succ n ih74 =>
                intro x ls x1 hn hl
                have hn74 := hn
                have vx := Vf_r hg (p := x) (t := tw + g 1) (by omega)
                have sx := sty_nn hg (p := x) (t := tw + g 1) (by omega) (by omega)
                have sy := Vf_stay hg (p := x) (t := tw + g 1) (by omega) (by omega)
                refine lv_iload hx hb dX7_wayAt_74 (lv_at hl 0 rfl) ?_
                refine lv_iload_n hx hb dX7_wayAt_76 rfl (lv_at hl 3 rfl) ?_
                refine j_icmp_eq (tgt := 111) hx hb dX7_wayAt_77 rfl ⟨by omega, by omega⟩ ⟨by omega, by omega⟩ (fun c77 => ?_) (fun c77 => ?_)
                · skip
                  refine j_iinc (k := 0) (lv' := [(6, .int (iI (x + 1))), (4, .int (iI (tw + (g 1)))), (5, .int (iI (Vf g pw tw))), (3, .int (iI (pw))), (0, .ref (q 36)), (1, .int (iI (pp))), (2, .int (iI (ss)))]) hx hb dX7_wayAt_111 hl rfl (by decide) rfl (fun ls hl => ?_)
                  refine lv_goto (tgt := 74) hx hb dX7_wayAt_114 rfl ?_
                  have xs : x + 1 ≤ (nxp g pw tw).2 := by first | (have z := nw.2.2.1; omega; done) | (have z := nw.2.2.2.2.1; by_cases q : x = (nxp g pw tw).2; (rw [← q] at z; omega); omega; done)
                  exact ih74 (x + 1) ls (by omega) (by omega) (lv_sub hl [0, 1, 2, 3, 4, 5, 6] rfl)
                · skip
                  refine lv_aload_n hx hb dX7_wayAt_80 rfl (lv_at hl 4 rfl) ?_
                  refine va_get (D := D) (ci := 7) (v := .ref (q 45)) (C := RX7) (T := TX7) (N := 23) hx hb hts (by decide +kernel) hown hK hP k36 h36 rfl 22 (by decide) (hts (.fieldLink RX7 96 "BreakSetterModel" "helps" "[I") (by decide +kernel)) (fun _ h9 => h9) f22 dX7_wayAt_81 ?_
                  refine lv_bipush (v := iI (49)) hx hb dX7_wayAt_84 (by decide) ?_
                  refine lv_iload hx hb dX7_wayAt_86 (lv_at hl 0 rfl) ?_
                  refine j_imul hx hb dX7_wayAt_88 ?_
                  refine lv_iload hx hb dX7_wayAt_89 (lv_at hl 1 rfl) ?_
                  refine j_iadd hx hb dX7_wayAt_91 ?_
                  refine j_iald hx hb hK hP k45 1 h45 rfl ⟨by omega, by omega⟩ (Nat.le_of_ble_eq_true rfl) dX7_wayAt_92 ?_
                  refine W_wen (y := iI (Vf g x (tw + g 1))) (congrArg iI (hok x (tw + g 1) (by omega) (by omega) (by omega) (by omega))) ?_
                  refine lv_iload hx hb dX7_wayAt_93 (lv_at hl 2 rfl) ?_
                  refine j_icmp_ne (tgt := 111) hx hb dX7_wayAt_95 rfl ⟨by omega, by omega⟩ ⟨by omega, by omega⟩ (fun c95 => ?_) (fun c95 => ?_)
                  · skip
                    refine j_iinc (k := 0) (lv' := [(6, .int (iI (x + 1))), (4, .int (iI (tw + (g 1)))), (5, .int (iI (Vf g pw tw))), (3, .int (iI (pw))), (0, .ref (q 36)), (1, .int (iI (pp))), (2, .int (iI (ss)))]) hx hb dX7_wayAt_111 hl rfl (by decide) rfl (fun ls hl => ?_)
                    refine lv_goto (tgt := 74) hx hb dX7_wayAt_114 rfl ?_
                    have xs : x + 1 ≤ (nxp g pw tw).2 := by first | (have z := nw.2.2.1; omega; done) | (have z := nw.2.2.2.2.1; by_cases q : x = (nxp g pw tw).2; (rw [← q] at z; omega); omega; done)
                    exact ih74 (x + 1) ls (by omega) (by omega) (lv_sub hl [0, 1, 2, 3, 4, 5, 6] rfl)
                  · skip
                    refine lv_aload_n hx hb dX7_wayAt_98 rfl (lv_at hl 4 rfl) ?_
                    refine lv_iload hx hb dX7_wayAt_99 (lv_at hl 0 rfl) ?_
                    refine lv_iload hx hb dX7_wayAt_101 (lv_at hl 1 rfl) ?_
                    refine CR_callV (As := [.int (iI (x)), .int (iI (tw + (g 1)))]) (rest := []) ⟨hx, hb, hml, hown, hts⟩ (c_X7_stays hh hg (by omega) (by omega) (fun _ _ _ => trivial)) (cwV 2 hts gX7_wayAt_X7_stays rfl rfl rfl (by decide +kernel) ⟨Nat.le_of_ble_eq_true rfl, Nat.le_of_ble_eq_true rfl⟩) (q0 := k36) h36 rfl rfl hK hNW hP rfl hl.1 rfl (Nat.le_of_ble_eq_true rfl) dX7_wayAt_103 ⟨Nat.zero_le _, Nat.zero_le _⟩ ?_
                    refine W_wen (y := iI (sty g x (tw + g 1))) (congrArg iI (by unfold sty; rw [show 49 * x + (tw + g 1) + 1 = 49 * x + ((tw + g 1) + 1) by omega, hok x ((tw + g 1) + 1) (by omega) (by omega) (by omega) (by omega)])) ?_
                    refine lv_iload hx hb dX7_wayAt_106 (lv_at hl 2 rfl) ?_
                    refine j_icmp_eq (tgt := 117) hx hb dX7_wayAt_108 rfl ⟨by omega, by omega⟩ ⟨by omega, by omega⟩ (fun c108 => ?_) (fun c108 => ?_)
                    · skip
                      have ex : x = (nxp g pw tw).2 := Classical.byContradiction fun q => by have z := nw.2.2.2.2.2.1 x (by omega) (by omega) c77; omega
                      refine lv_iload hx hb dX7_wayAt_117 (lv_at hl 0 rfl) ?_
                      refine lv_istore_n (lv' := [(3, .int (iI (x))), (6, .int (iI (x))), (4, .int (iI (tw + (g 1)))), (5, .int (iI (Vf g pw tw))), (0, .ref (q 36)), (1, .int (iI (pp))), (2, .int (iI (ss)))]) hx hb dX7_wayAt_119 rfl hl (by decide) rfl (fun ls hl => ?_)
                      refine lv_goto (tgt := 5) hx hb dX7_wayAt_120 rfl ?_
                      exact ih5 x (tw + (g 1)) ls (by omega) (by first | (exact ⟨a, cw_st hg (by omega) (by omega) wa c34, by omega⟩; done) | (exact ⟨tw + g 1, cw_arr hg (by omega) (by omega) wa wb c34 (by omega) ex, by omega⟩; done)) (by omega) (lv_sub hl [2, 0, 4, 5, 6] rfl)
                    · skip
                      refine j_iinc (k := 0) (lv' := [(6, .int (iI (x + 1))), (4, .int (iI (tw + (g 1)))), (5, .int (iI (Vf g pw tw))), (3, .int (iI (pw))), (0, .ref (q 36)), (1, .int (iI (pp))), (2, .int (iI (ss)))]) hx hb dX7_wayAt_111 hl rfl (by decide) rfl (fun ls hl => ?_)
                      refine lv_goto (tgt := 74) hx hb dX7_wayAt_114 rfl ?_
                      have xs : x + 1 ≤ (nxp g pw tw).2 := by first | (have z := nw.2.2.1; omega; done) | (have z := nw.2.2.2.2.1; by_cases q : x = (nxp g pw tw).2; (rw [← q] at z; omega); omega; done) | (exact absurd (nw.2.2.2.2.2.2 x (by omega) (by omega) c77 c95) c108; done)
                      exact ih74 (x + 1) ls (by omega) (by omega) (lv_sub hl [0, 1, 2, 3, 4, 5, 6] rfl)
            exact L74 _ 0 ls (by omega) (Nat.lt_succ_self _) (lv_sub hl [0, 1, 2, 3, 4, 5, 6] rfl)
          · skip
            refine lv_bipush (v := iI (9)) hx hb dX7_wayAt_68 (by decide) ?_
            exact hret ls 70 _ dX7_wayAt_70 (congrArg iI (way_walk hg (by omega) (by omega) wa wb c34 (by omega) (by omega)).symm)
        · skip
          refine lv_iload hx hb dX7_wayAt_37 (lv_at hl 1 rfl) ?_
          refine lv_iload_n hx hb dX7_wayAt_39 rfl (lv_at hl 5 rfl) ?_
          refine j_icmp_ne (tgt := 45) hx hb dX7_wayAt_40 rfl ⟨by omega, by omega⟩ ⟨by omega, by omega⟩ (fun c40 => ?_) (fun c40 => ?_)
          · skip
            refine j_iinc (k := 1) (lv' := [(4, .int (iI (tw + 1))), (5, .int (iI (Vf g pw tw))), (3, .int (iI (pw))), (0, .ref (q 36)), (1, .int (iI (pp))), (2, .int (iI (ss)))]) hx hb dX7_wayAt_45 hl rfl (by decide) rfl (fun ls hl => ?_)
            refine lv_goto (tgt := 5) hx hb dX7_wayAt_48 rfl ?_
            exact ih5 pw (tw + 1) ls (by omega) (by (exact ⟨a, cw_st hg (by omega) (by omega) wa c34, by omega⟩; done)) (by omega) (lv_sub hl [0, 2, 3, 4, 5] rfl)
          · skip
            refine lv_iload_n hx hb dX7_wayAt_43 rfl (lv_at hl 2 rfl) ?_
            exact hret ls 44 _ dX7_wayAt_44 (congrArg iI (way_stay hg hs.1 hs.2 (by rw [← c40]; exact wa) (by omega) (by rw [← c40]; exact c34)).symm)
  exact L5 _ pp 0 ls (by omega) ⟨0, rfl, by omega⟩ (Nat.lt_succ_self _) (lv_sub hl [0, 1, 2, 3, 4] rfl)

set_option maxHeartbeats 4000000 in
set_option maxRecDepth 100000 in
theorem c_X7_relief {l : Launch} {D : va_G} {C : Nat → ClassId} {q : Nat → Nat} {th ta fa sm : Int} {tape now snaps : Int → Int} {wo : Int64} {sc : Nat → Int} {sa : Nat → Int → Int} {hq : Int → Int} (hg : Wf now) {pp tt : Int} (hp : R32 pp) (ht : R32 tt) : CI (S := Int → Int) l yX7_relief wsX7_relief 8 182 D C [.ref (q 36), .int (iI (pp)), .int (iI (tt))] (wM q C th ta fa sm tape now snaps wo sc (sa5 sa hq)) (fun u => wM q C 0 ta fa sm tape now snaps wo sc (sa5 sa u)) (fun r u => r = iI (reliefF now pp tt)) := by
  refine CI_of (cc := cX7_relief) (maxL := 3) (by decide) rfl (Nat.le_of_ble_eq_true rfl) ?_
  intro p e s m below meth c A Q ls hx hb hml hown hts hK hNW hA hl hP hD hS hret
  have hl : lv_has ls 3 [(0, .ref (q 36)), (1, .int (iI (pp))), (2, .int (iI (tt)))] := hl
  have n := Wf_n hg
  refine lv_aload_n hx hb dX7_relief_0 rfl (lv_at hl 0 rfl) ?_
  refine lv_iconst (v := iI (0)) hx hb dX7_relief_1 rfl ?_
  refine va_put (D := D) (ci := 7) (v := .int (iI (0))) (ty := .int) (C := RX7) (T := TX7) (N := 23) hx hb hts (by decide +kernel) tyX7 tyX7_ok nmX7 hown hK hP hD hS 0 rfl rfl 0 (by decide) (hts (.fieldLink RX7 1 "BreakSetterModel" "thrown" "I") (by decide +kernel)) (fun _ h9 => h9) rfl (by decide +kernel) rfl rfl (Nat.le_of_ble_eq_true rfl) dX7_relief_2 (fun H locs hP hD hS => ?_)
  have hP : va_P D vwCl (wM q C 0 ta fa sm tape now snaps wo sc (sa5 sa hq)) H := hP
  have hD : va_D A (wM q C 0 ta fa sm tape now snaps wo sc (sa5 sa hq)) := hD
  refine lv_aload_n hx hb dX7_relief_5 rfl (lv_at hl 0 rfl) ?_
  refine lv_iload_n hx hb dX7_relief_6 rfl (lv_at hl 1 rfl) ?_
  refine CR_callV (As := [.int (iI (pp))]) (rest := []) ⟨hx, hb, hml, hown, hts⟩ (c_X7_isPost MN_wM hg hp) (cwV 1 hts gX7_relief_X7_isPost rfl rfl rfl (by decide +kernel) ⟨Nat.le_of_ble_eq_true rfl, Nat.le_of_ble_eq_true rfl⟩) (q0 := 0) rfl rfl rfl hK hNW hP rfl hl.1 rfl (Nat.le_of_ble_eq_true rfl) dX7_relief_7 ⟨Nat.zero_le _, Nat.zero_le _⟩ ?_
  refine j_ifeqB (tgt := 25) hx hb dX7_relief_10 rfl (fun c10 => ?_) (fun c10 => ?_)
  · skip
    refine lv_iconst (v := iI (-1)) hx hb dX7_relief_25 rfl ?_
    exact hret H locs ls 26 _ hq dX7_relief_26 (by unfold reliefF; rw [if_neg (by omega)]) hP hD hS
  · skip
    refine lv_iload_n hx hb dX7_relief_13 rfl (lv_at hl 2 rfl) ?_
    refine lv_iconst (v := iI (-1)) hx hb dX7_relief_14 rfl ?_
    refine j_icmp_eq (tgt := 27) hx hb dX7_relief_15 rfl ht ⟨by decide, by decide⟩ (fun c15 => ?_) (fun c15 => ?_)
    · skip
      refine lv_aload_n hx hb dX7_relief_27 rfl (lv_at hl 0 rfl) ?_
      refine CV_callV0 (As := []) (rest := []) ⟨hx, hb, hml, hown, hts⟩ (c_X7_laysHelps hg) (cwV 0 hts gX7_relief_X7_laysHelps rfl rfl rfl (by decide +kernel) ⟨Nat.le_of_ble_eq_true rfl, Nat.le_of_ble_eq_true rfl⟩) (q0 := 0) rfl rfl rfl hK hNW hP hD hS hA rfl hl.1 rfl (Nat.le_of_ble_eq_true rfl) dX7_relief_28 ⟨Nat.zero_le _, Nat.zero_le _⟩ (fun h9 H locs hw9 hP hD hS => ?_)
      have hP : va_P D vwCl (wM q C 0 ta fa sm tape now snaps wo sc (sa5 sa h9)) H := hP
      have hD : va_D A (wM q C 0 ta fa sm tape now snaps wo sc (sa5 sa h9)) := hD
      have hok : ∀ p x : Int, 0 ≤ p → p < now 0 → 0 ≤ x → x ≤ 48 → h9 (49 * p + x) = Vf now p x := hw9
      refine lv_iload_n hx hb dX7_relief_31 rfl (lv_at hl 2 rfl) ?_
      refine lv_iconst (v := iI (-1)) hx hb dX7_relief_32 rfl ?_
      refine j_icmp_ne (tgt := 48) hx hb dX7_relief_33 rfl ht ⟨by decide, by decide⟩ (fun c33 => ?_) (fun c33 => ?_)
      · skip
        refine lv_aload_n hx hb dX7_relief_48 rfl (lv_at hl 0 rfl) ?_
        refine lv_iload_n hx hb dX7_relief_49 rfl (lv_at hl 1 rfl) ?_
        refine lv_iload_n hx hb dX7_relief_50 rfl (lv_at hl 2 rfl) ?_
        refine CR_callV (As := [.int (iI (pp)), .int (iI (tt))]) (rest := []) ⟨hx, hb, hml, hown, hts⟩ (c_X7_wayAt HN_wM hg hok c10 ⟨by omega, by omega⟩) (cwV 2 hts gX7_relief_X7_wayAt rfl rfl rfl (by decide +kernel) ⟨Nat.le_of_ble_eq_true rfl, Nat.le_of_ble_eq_true rfl⟩) (q0 := 0) rfl rfl rfl hK hNW hP rfl hl.1 rfl (Nat.le_of_ble_eq_true rfl) dX7_relief_51 ⟨Nat.zero_le _, Nat.zero_le _⟩ ?_
        exact hret H locs ls 54 _ h9 dX7_relief_54 (by unfold reliefF; rw [if_pos ⟨⟨by omega, by omega⟩, by omega⟩]; first | (rw [if_pos c33]; done) | (rw [if_neg c33]; rfl; done)) hP hD hS
      · skip
        refine lv_aload_n hx hb dX7_relief_36 rfl (lv_at hl 0 rfl) ?_
        refine va_get (D := D) (ci := 7) (v := .ref (q 45)) (C := RX7) (T := TX7) (N := 23) hx hb hts (by decide +kernel) hown hK hP 0 rfl rfl 22 (by decide) (hts (.fieldLink RX7 96 "BreakSetterModel" "helps" "[I") (by decide +kernel)) (fun _ h9 => h9) rfl dX7_relief_37 ?_
        refine lv_bipush (v := iI (49)) hx hb dX7_relief_40 (by decide) ?_
        refine lv_iload_n hx hb dX7_relief_42 rfl (lv_at hl 1 rfl) ?_
        refine j_imul hx hb dX7_relief_43 ?_
        refine j_iald hx hb hK hP 9 1 rfl rfl ⟨by omega, by omega⟩ (Nat.le_of_ble_eq_true rfl) dX7_relief_44 ?_
        refine W_wen (y := iI (Vf now pp 0)) (congrArg iI (by rw [show 49 * pp = 49 * pp + 0 by omega]; exact hok pp 0 (by omega) (by omega) (by omega) (by omega))) ?_
        refine lv_goto (tgt := 54) hx hb dX7_relief_45 rfl ?_
        exact hret H locs ls 54 _ h9 dX7_relief_54 (by unfold reliefF; rw [if_pos ⟨⟨by omega, by omega⟩, by omega⟩]; first | (rw [if_pos c33]; done) | (rw [if_neg c33]; rfl; done)) hP hD hS
    · skip
      refine lv_iload_n hx hb dX7_relief_18 rfl (lv_at hl 2 rfl) ?_
      refine CR_callS (As := [.int (iI (tt))]) (rest := []) ⟨hx, hb, hml, hown, hts⟩ (c_X7_isSlot ht) (cwS 1 hts gX7_relief_X7_isSlot rfl rfl rfl (by decide +kernel) ⟨Nat.le_of_ble_eq_true rfl, Nat.le_of_ble_eq_true rfl⟩) hK hNW hP rfl hl.1 rfl (Nat.le_of_ble_eq_true rfl) dX7_relief_19 ⟨Nat.zero_le _, Nat.zero_le _⟩ ?_
      refine j_ifneB (tgt := 27) hx hb dX7_relief_22 rfl (fun c22 => ?_) (fun c22 => ?_)
      · skip
        refine lv_aload_n hx hb dX7_relief_27 rfl (lv_at hl 0 rfl) ?_
        refine CV_callV0 (As := []) (rest := []) ⟨hx, hb, hml, hown, hts⟩ (c_X7_laysHelps hg) (cwV 0 hts gX7_relief_X7_laysHelps rfl rfl rfl (by decide +kernel) ⟨Nat.le_of_ble_eq_true rfl, Nat.le_of_ble_eq_true rfl⟩) (q0 := 0) rfl rfl rfl hK hNW hP hD hS hA rfl hl.1 rfl (Nat.le_of_ble_eq_true rfl) dX7_relief_28 ⟨Nat.zero_le _, Nat.zero_le _⟩ (fun h9 H locs hw9 hP hD hS => ?_)
        have hP : va_P D vwCl (wM q C 0 ta fa sm tape now snaps wo sc (sa5 sa h9)) H := hP
        have hD : va_D A (wM q C 0 ta fa sm tape now snaps wo sc (sa5 sa h9)) := hD
        have hok : ∀ p x : Int, 0 ≤ p → p < now 0 → 0 ≤ x → x ≤ 48 → h9 (49 * p + x) = Vf now p x := hw9
        refine lv_iload_n hx hb dX7_relief_31 rfl (lv_at hl 2 rfl) ?_
        refine lv_iconst (v := iI (-1)) hx hb dX7_relief_32 rfl ?_
        refine j_icmp_ne (tgt := 48) hx hb dX7_relief_33 rfl ht ⟨by decide, by decide⟩ (fun c33 => ?_) (fun c33 => ?_)
        · skip
          refine lv_aload_n hx hb dX7_relief_48 rfl (lv_at hl 0 rfl) ?_
          refine lv_iload_n hx hb dX7_relief_49 rfl (lv_at hl 1 rfl) ?_
          refine lv_iload_n hx hb dX7_relief_50 rfl (lv_at hl 2 rfl) ?_
          refine CR_callV (As := [.int (iI (pp)), .int (iI (tt))]) (rest := []) ⟨hx, hb, hml, hown, hts⟩ (c_X7_wayAt HN_wM hg hok c10 ⟨by omega, by omega⟩) (cwV 2 hts gX7_relief_X7_wayAt rfl rfl rfl (by decide +kernel) ⟨Nat.le_of_ble_eq_true rfl, Nat.le_of_ble_eq_true rfl⟩) (q0 := 0) rfl rfl rfl hK hNW hP rfl hl.1 rfl (Nat.le_of_ble_eq_true rfl) dX7_relief_51 ⟨Nat.zero_le _, Nat.zero_le _⟩ ?_
          exact hret H locs ls 54 _ h9 dX7_relief_54 (by unfold reliefF; rw [if_pos ⟨⟨by omega, by omega⟩, by omega⟩]; first | (rw [if_pos c33]; done) | (rw [if_neg c33]; rfl; done)) hP hD hS
        · skip
          refine lv_aload_n hx hb dX7_relief_36 rfl (lv_at hl 0 rfl) ?_
          refine va_get (D := D) (ci := 7) (v := .ref (q 45)) (C := RX7) (T := TX7) (N := 23) hx hb hts (by decide +kernel) hown hK hP 0 rfl rfl 22 (by decide) (hts (.fieldLink RX7 96 "BreakSetterModel" "helps" "[I") (by decide +kernel)) (fun _ h9 => h9) rfl dX7_relief_37 ?_
          refine lv_bipush (v := iI (49)) hx hb dX7_relief_40 (by decide) ?_
          refine lv_iload_n hx hb dX7_relief_42 rfl (lv_at hl 1 rfl) ?_
          refine j_imul hx hb dX7_relief_43 ?_
          refine j_iald hx hb hK hP 9 1 rfl rfl ⟨by omega, by omega⟩ (Nat.le_of_ble_eq_true rfl) dX7_relief_44 ?_
          refine W_wen (y := iI (Vf now pp 0)) (congrArg iI (by rw [show 49 * pp = 49 * pp + 0 by omega]; exact hok pp 0 (by omega) (by omega) (by omega) (by omega))) ?_
          refine lv_goto (tgt := 54) hx hb dX7_relief_45 rfl ?_
          exact hret H locs ls 54 _ h9 dX7_relief_54 (by unfold reliefF; rw [if_pos ⟨⟨by omega, by omega⟩, by omega⟩]; first | (rw [if_pos c33]; done) | (rw [if_neg c33]; rfl; done)) hP hD hS
      · skip
        refine lv_iconst (v := iI (-1)) hx hb dX7_relief_25 rfl ?_
        exact hret H locs ls 26 _ hq dX7_relief_26 (by unfold reliefF; rw [if_neg (by omega)]) hP hD hS
