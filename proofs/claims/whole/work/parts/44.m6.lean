def saG (sa : Nat → Int → Int) (sp tk so sn : Int → Int) : Nat → Int → Int := fun k => if k = 1 then sp else if k = 2 then tk else if k = 3 then so else if k = 4 then sn else sa k
theorem saG_self (sa : Nat → Int → Int) : saG sa (sa 1) (sa 2) (sa 3) (sa 4) = sa := by
  funext k
  unfold saG
  by_cases h1 : k = 1
  · rw [if_pos h1, h1]
  · rw [if_neg h1]
    by_cases h2 : k = 2
    · rw [if_pos h2, h2]
    · rw [if_neg h2]
      by_cases h3 : k = 3
      · rw [if_pos h3, h3]
      · rw [if_neg h3]
        by_cases h4 : k = 4
        · rw [if_pos h4, h4]
        · rw [if_neg h4]
theorem sa5_self (sa : Nat → Int → Int) : sa5 sa (sa 5) = sa := by
  funext k
  unfold sa5
  by_cases h : k = 5
  · rw [if_pos h, h]
  · rw [if_neg h]
set_option maxHeartbeats 4000000 in
set_option maxRecDepth 100000 in
theorem gs_step {l : Launch} {D : va_G} {C : Nat → ClassId} {q : Nat → Nat} {th ta fa sm : Int} {tape now snaps : Int → Int} {wo : Int64} {sc : Nat → Int} {sa : Nat → Int → Int} {sp : Int → Int} {pp : Int} (hg : Wf now) (hp : 0 ≤ pp ∧ pp < 3) (hSA : shA now pp) (hsp : ∀ t : Int, 0 ≤ t → t < 48 → sp t = lK now pp t) {d : Nat} (IH : ∀ (tk so sn : Int → Int) (s0 : Int), (vld (lP now pp) (lA now) (lB now) (lK now pp) (now 2).toNat so) → (cnt (now 2).toNat so tk) → (b01f sn) → (0 ≤ s0 ∧ s0 < now 2) → (lP now pp s0) → ((so s0 = -1 ∨ sn (so s0) = 1)) → Un sn < (d : Int) → CI (S := (Int → Int) × (Int → Int) × (Int → Int)) l yX7_getsSlot wsX7_getsSlot (1 + d) (22 + 25 * d) D C [.ref (q 36), .int (iI s0)] (wM q C th ta fa sm tape now snaps wo sc (saG sa sp tk so sn)) (fun u => wM q C th ta fa sm tape now snaps wo sc (saG sa sp (u.1) (u.2.1) (u.2.2))) (fun r u => ∃ z : Int, r = iI z ∧ ((z = 0 ∧ GSf (lA now) (lB now) (lK now pp) (now 2).toNat tk so sn s0 u.1 u.2.1 u.2.2) ∨ (z = 1 ∧ GSt (lP now pp) (lA now) (lB now) (lK now pp) (now 2).toNat so sn s0 u.1 u.2.1)))) {tk so sn : Int → Int} {s0 : Int} (hv : vld (lP now pp) (lA now) (lB now) (lK now pp) (now 2).toNat so) (hc : cnt (now 2).toNat so tk) (hb1 : b01f sn) (hx0 : 0 ≤ s0 ∧ s0 < now 2) (px : lP now pp s0) (hs : (so s0 = -1 ∨ sn (so s0) = 1)) (hU : Un sn < ((d + 1 : Nat) : Int)) : CI (S := (Int → Int) × (Int → Int) × (Int → Int)) l yX7_getsSlot wsX7_getsSlot (1 + (d + 1)) (22 + 25 * (d + 1)) D C [.ref (q 36), .int (iI (s0))] (wM q C th ta fa sm tape now snaps wo sc (saG sa sp tk so sn)) (fun u => wM q C th ta fa sm tape now snaps wo sc (saG sa sp (u.1) (u.2.1) (u.2.2))) (fun r u => ∃ z : Int, r = iI z ∧ ((z = 0 ∧ GSf (lA now) (lB now) (lK now pp) (now 2).toNat tk so sn s0 u.1 u.2.1 u.2.2) ∨ (z = 1 ∧ GSt (lP now pp) (lA now) (lB now) (lK now pp) (now 2).toNat so sn s0 u.1 u.2.1))) := by
  refine CZ_of (cc := cX7_getsSlot) (maxL := 6) (by decide) rfl (Nat.le_of_ble_eq_true rfl) ?_
  intro p e s m below meth c A Q ls hx hb hml hown hts hK hNW hA hl hP hD hS hret
  have hl : lv_has ls 6 [(0, .ref (q 36)), (1, .int (iI (s0)))] := hl
  have n := Wf_n hg
  have ab := lAB hg hSA hx0.1 hx0.2 px
  have eA : lA now s0 = now (190 + 5 * now (152 + 5 * s0)) := rfl
  have eB : lB now s0 = now (191 + 5 * now (152 + 5 * s0)) := rfl
  have hw : ∀ x : Int, 0 ≤ x → x < ((now 2).toNat : Nat) → so x = -1 ∨ (0 ≤ lA now x ∧ lB now x < 48) := fun x x0 x1 => by rcases hv.1 x x0 x1 with z | z; (exact Or.inl z); (have w := lAB hg hSA x0 (by omega) z.1; exact Or.inr ⟨w.1, w.2.2.1⟩)
  refine lv_aload_n hx hb dX7_getsSlot_0 rfl (lv_at hl 0 rfl) ?_
  refine lv_iload_n hx hb dX7_getsSlot_1 rfl (lv_at hl 1 rfl) ?_
  refine lv_iconst (v := iI (4)) hx hb dX7_getsSlot_2 rfl ?_
  refine CR_callV (As := [.int (iI (s0)), .int (iI (4))]) (rest := []) ⟨hx, hb, hml, hown, hts⟩ (c_X7_duty MN_wM (by omega) (by omega)) (cwV 2 hts gX7_getsSlot_X7_duty rfl rfl rfl (by decide +kernel) ⟨by show 0 + 1 ≤ (1 + (d + 1)); omega, by show 8 + (3 + 11) + 0 ≤ (22 + 25 * (d + 1)); omega⟩) (q0 := 0) rfl rfl rfl hK hNW hP rfl hl.1 rfl (Nat.le_of_ble_eq_true rfl) dX7_getsSlot_3 ⟨Nat.zero_le _, Nat.zero_le _⟩ ?_
  refine W_wen (y := iI (now (152 + 5 * s0))) (congrArg iI (congrArg now (by omega))) ?_
  refine lv_istore_n (lv' := [(2, .int (iI (now (152 + 5 * s0)))), (0, .ref (q 36)), (1, .int (iI (s0)))]) hx hb dX7_getsSlot_6 rfl hl (by decide) rfl (fun ls hl => ?_)
  refine lv_aload_n hx hb dX7_getsSlot_7 rfl (lv_at hl 1 rfl) ?_
  refine lv_iload_n hx hb dX7_getsSlot_8 rfl (lv_at hl 0 rfl) ?_
  refine lv_iconst (v := iI (2)) hx hb dX7_getsSlot_9 rfl ?_
  refine CR_callV (As := [.int (iI (now (152 + 5 * s0))), .int (iI (2))]) (rest := []) ⟨hx, hb, hml, hown, hts⟩ (c_X7_its MN_wM (by omega) (by omega)) (cwV 2 hts gX7_getsSlot_X7_its rfl rfl rfl (by decide +kernel) ⟨by show 0 + 1 ≤ (1 + (d + 1)); omega, by show 8 + (3 + 11) + 0 ≤ (22 + 25 * (d + 1)); omega⟩) (q0 := 0) rfl rfl rfl hK hNW hP rfl hl.1 rfl (Nat.le_of_ble_eq_true rfl) dX7_getsSlot_10 ⟨Nat.zero_le _, Nat.zero_le _⟩ ?_
  refine W_wen (y := iI (now (190 + 5 * (now (152 + 5 * s0))))) (congrArg iI (congrArg now (by omega))) ?_
  refine lv_istore_n (lv' := [(3, .int (iI (now (190 + 5 * (now (152 + 5 * s0)))))), (2, .int (iI (now (152 + 5 * s0)))), (0, .ref (q 36)), (1, .int (iI (s0)))]) hx hb dX7_getsSlot_13 rfl hl (by decide) rfl (fun ls hl => ?_)
  have L14 : ∀ (n : Nat) (t : Int) (sn1 : Int → Int) (ls : Array Slot) (H : Heap) (locs : List Loc), (lA now s0 ≤ t ∧ t ≤ lB now s0 + 1) → (b01f sn1) → (Nw (lA now) (lB now) (lK now pp) (now 2).toNat so sn sn1) → (∀ u : Int, lA now s0 ≤ u → u < t → 0 < lK now pp u → sn1 u = 1) → ((lB now s0 + 1 - t).toNat < n) → (lv_has ls 6 [(3, .int (iI (t))), (2, .int (iI (now (152 + 5 * s0)))), (0, .ref (q 36)), (1, .int (iI (s0)))]) → (va_P D vwCl (wM q C th ta fa sm tape now snaps wo sc (saG sa sp tk so sn1)) H) → (va_D A (wM q C th ta fa sm tape now snaps wo sc (saG sa sp tk so sn1))) → (va_S A s.heap H locs) → W p l e (rmN (1 + (d + 1)) (22 + 25 * (d + 1))) s m ([.ref (q 36), .int (iI (s0))] : List Value).toArray below meth c H locs 0 0 Q (F0 m 14 ls []) := by
    intro n
    induction n with
    | zero => intro t sn1 ls H locs t1 s1 hN t2 hn; exact absurd hn (Nat.not_lt_zero _)
    | succ n ih14 =>
      intro t sn1 ls H locs t1 s1 hN t2 hn hl hP hD hS
      have hn14 := hn
      refine lv_iload_n hx hb dX7_getsSlot_14 rfl (lv_at hl 0 rfl) ?_
      refine lv_aload_n hx hb dX7_getsSlot_15 rfl (lv_at hl 2 rfl) ?_
      refine lv_iload_n hx hb dX7_getsSlot_16 rfl (lv_at hl 1 rfl) ?_
      refine lv_iconst (v := iI (3)) hx hb dX7_getsSlot_17 rfl ?_
      refine CR_callV (As := [.int (iI (now (152 + 5 * s0))), .int (iI (3))]) (rest := [.int (iI (t))]) ⟨hx, hb, hml, hown, hts⟩ (c_X7_its MN_wM (by omega) (by omega)) (cwV 2 hts gX7_getsSlot_X7_its rfl rfl rfl (by decide +kernel) ⟨by show 0 + 1 ≤ (1 + (d + 1)); omega, by show 8 + (3 + 11) + 0 ≤ (22 + 25 * (d + 1)); omega⟩) (q0 := 0) rfl rfl rfl hK hNW hP rfl hl.1 rfl (Nat.le_of_ble_eq_true rfl) dX7_getsSlot_18 ⟨Nat.zero_le _, Nat.zero_le _⟩ ?_
      refine W_wen (y := iI (now (191 + 5 * (now (152 + 5 * s0))))) (congrArg iI (congrArg now (by omega))) ?_
      refine j_icmp_gt (tgt := 168) hx hb dX7_getsSlot_21 rfl ⟨by omega, by omega⟩ ⟨by omega, by omega⟩ (fun c21 => ?_) (fun c21 => ?_)
      · skip
        refine lv_iconst (v := iI (0)) hx hb dX7_getsSlot_168 rfl ?_
        exact hret H locs ls 169 _ (tk, so, sn1) dX7_getsSlot_169 (Or.inl rfl) ⟨0, rfl, Or.inl ⟨rfl, rfl, rfl, s1, hN, fun u a b c => t2 u a (by omega) c⟩⟩ hP hD hS
      · skip
        have s9 := s1 t (by omega) (by omega)
        have kr := lK_rng hg hp.1 hp.2 (t := t) (by omega) (by omega)
        refine lv_aload_n hx hb dX7_getsSlot_24 rfl (lv_at hl 2 rfl) ?_
        refine va_get (D := D) (ci := 7) (v := .ref (q 44)) (C := RX7) (T := TX7) (N := 23) hx hb hts (by decide +kernel) hown hK hP 0 rfl rfl 21 (by decide) (hts (.fieldLink RX7 92 "BreakSetterModel" "seen" "[Z") (by decide +kernel)) (fun _ h9 => h9) rfl dX7_getsSlot_25 ?_
        refine lv_iload_n hx hb dX7_getsSlot_28 rfl (lv_at hl 0 rfl) ?_
        refine j_zald hx hb hK hP 8 2 rfl rfl ⟨by omega, by omega⟩ (Nat.le_of_ble_eq_true rfl) dX7_getsSlot_29 ?_
        refine W_wen (y := iI (sn1 t)) rfl ?_
        refine j_if_ne (tgt := 162) hx hb dX7_getsSlot_30 rfl ⟨by omega, by omega⟩ (fun c30 => ?_) (fun c30 => ?_)
        · skip
          refine j_iinc (k := 0) (lv' := [(3, .int (iI (t + 1))), (2, .int (iI (now (152 + 5 * s0)))), (0, .ref (q 36)), (1, .int (iI (s0)))]) hx hb dX7_getsSlot_162 hl rfl (by decide) rfl (fun ls hl => ?_)
          refine lv_goto (tgt := 14) hx hb dX7_getsSlot_165 rfl ?_
          exact ih14 (t + 1) sn1 ls H locs (by omega) (by first | exact hL.2.1 | exact s1) (by first | exact dn.1 | exact hN) (fa_step (P := fun u => 0 < lK now pp u → _) (fun u a b c => by first | exact dn.2.2 u (by omega) (by omega) (t2 u a b c) | exact t2 u a b c) (fun c => by first | exact dn.2.1 | omega)) (by omega) (lv_sub hl [0, 1, 2, 3] rfl) hP hD hS
        · skip
          refine lv_aload_n hx hb dX7_getsSlot_33 rfl (lv_at hl 2 rfl) ?_
          refine va_get (D := D) (ci := 7) (v := .ref (q 41)) (C := RX7) (T := TX7) (N := 23) hx hb hts (by decide +kernel) hown hK hP 0 rfl rfl 18 (by decide) (hts (.fieldLink RX7 83 "BreakSetterModel" "spare" "[I") (by decide +kernel)) (fun _ h9 => h9) rfl dX7_getsSlot_34 ?_
          refine lv_iload_n hx hb dX7_getsSlot_37 rfl (lv_at hl 0 rfl) ?_
          refine j_iald hx hb hK hP 5 1 rfl rfl ⟨by omega, by omega⟩ (Nat.le_of_ble_eq_true rfl) dX7_getsSlot_38 ?_
          refine W_wen (y := iI (sp t)) rfl ?_
          refine W_wen (y := iI (lK now pp t)) (congrArg iI (hsp t (by omega) (by omega))) ?_
          refine j_if_gt (tgt := 45) hx hb dX7_getsSlot_39 rfl ⟨by omega, by omega⟩ (fun c39 => ?_) (fun c39 => ?_)
          · skip
            refine lv_aload_n hx hb dX7_getsSlot_45 rfl (lv_at hl 2 rfl) ?_
            refine va_get (D := D) (ci := 7) (v := .ref (q 44)) (C := RX7) (T := TX7) (N := 23) hx hb hts (by decide +kernel) hown hK hP 0 rfl rfl 21 (by decide) (hts (.fieldLink RX7 92 "BreakSetterModel" "seen" "[Z") (by decide +kernel)) (fun _ h9 => h9) rfl dX7_getsSlot_46 ?_
            refine lv_iload_n hx hb dX7_getsSlot_49 rfl (lv_at hl 0 rfl) ?_
            refine lv_iconst (v := iI (1)) hx hb dX7_getsSlot_50 rfl ?_
            refine j_zast (v := 1) hx hb hK hP hD hS 8 2 rfl rfl ⟨by omega, by omega⟩ (Nat.le_of_ble_eq_true rfl) rfl dX7_getsSlot_51 (fun H locs hP hD hS => ?_)
            have hP : va_P D vwCl (wM q C th ta fa sm tape now snaps wo sc (saG sa sp tk so (up sn1 t 1))) H := hP
            have hD : va_D A (wM q C th ta fa sm tape now snaps wo sc (saG sa sp tk so (up sn1 t 1))) := hD
            have tc := hc t (by omega) (by omega)
            have tv := hv.2 t (by omega) (by omega)
            have tn := ctm_nn so (now 2).toNat t
            refine lv_aload_n hx hb dX7_getsSlot_52 rfl (lv_at hl 2 rfl) ?_
            refine va_get (D := D) (ci := 7) (v := .ref (q 42)) (C := RX7) (T := TX7) (N := 23) hx hb hts (by decide +kernel) hown hK hP 0 rfl rfl 19 (by decide) (hts (.fieldLink RX7 86 "BreakSetterModel" "taken" "[I") (by decide +kernel)) (fun _ h9 => h9) rfl dX7_getsSlot_53 ?_
            refine lv_iload_n hx hb dX7_getsSlot_56 rfl (lv_at hl 0 rfl) ?_
            refine j_iald hx hb hK hP 6 1 rfl rfl ⟨by omega, by omega⟩ (Nat.le_of_ble_eq_true rfl) dX7_getsSlot_57 ?_
            refine W_wen (y := iI (tk t)) rfl ?_
            refine lv_aload_n hx hb dX7_getsSlot_58 rfl (lv_at hl 2 rfl) ?_
            refine va_get (D := D) (ci := 7) (v := .ref (q 41)) (C := RX7) (T := TX7) (N := 23) hx hb hts (by decide +kernel) hown hK hP 0 rfl rfl 18 (by decide) (hts (.fieldLink RX7 83 "BreakSetterModel" "spare" "[I") (by decide +kernel)) (fun _ h9 => h9) rfl dX7_getsSlot_59 ?_
            refine lv_iload_n hx hb dX7_getsSlot_62 rfl (lv_at hl 0 rfl) ?_
            refine j_iald hx hb hK hP 5 1 rfl rfl ⟨by omega, by omega⟩ (Nat.le_of_ble_eq_true rfl) dX7_getsSlot_63 ?_
            refine W_wen (y := iI (sp t)) rfl ?_
            refine W_wen (y := iI (lK now pp t)) (congrArg iI (hsp t (by omega) (by omega))) ?_
            refine j_icmp_ge (tgt := 71) hx hb dX7_getsSlot_64 rfl ⟨by omega, by omega⟩ ⟨by omega, by omega⟩ (fun c64 => ?_) (fun c64 => ?_)
            · skip
              refine lv_iconst (v := iI (0)) hx hb dX7_getsSlot_71 rfl ?_
              have J72 : ∀ (is0 : Int) (ls : Array Slot) (H : Heap) (locs : List Loc), ((is0 = 1 ∧ ¬ lK now pp t ≤ tk t) ∨ (is0 = 0 ∧ lK now pp t ≤ tk t)) → (lv_has ls 6 [(3, .int (iI (t))), (2, .int (iI (now (152 + 5 * s0)))), (0, .ref (q 36)), (1, .int (iI (s0)))]) → (va_P D vwCl (wM q C th ta fa sm tape now snaps wo sc (saG sa sp tk so (up sn1 t 1))) H) → (va_D A (wM q C th ta fa sm tape now snaps wo sc (saG sa sp tk so (up sn1 t 1)))) → (va_S A s.heap H locs) → W p l e (rmN (1 + (d + 1)) (22 + 25 * (d + 1))) s m ([.ref (q 36), .int (iI (s0))] : List Value).toArray below meth c H locs 0 0 Q (F0 m 72 ls [.int (iI (is0))]) := by
                intro is0 ls H locs hJ hl hP hD hS
                refine lv_istore (lv' := [(4, .int (iI (is0))), (3, .int (iI (t))), (2, .int (iI (now (152 + 5 * s0)))), (0, .ref (q 36)), (1, .int (iI (s0)))]) hx hb dX7_getsSlot_72 hl (by decide) rfl (fun ls hl => ?_)
                refine lv_iconst (v := iI (0)) hx hb dX7_getsSlot_74 rfl ?_
                refine lv_istore (lv' := [(5, .int (iI (0))), (4, .int (iI (is0))), (3, .int (iI (t))), (2, .int (iI (now (152 + 5 * s0)))), (0, .ref (q 36)), (1, .int (iI (s0)))]) hx hb dX7_getsSlot_75 hl (by decide) rfl (fun ls hl => ?_)
                have L77 : ∀ (n : Nat) (x : Int) (e4 : Int) (tk2 : Int → Int) (so2 : Int → Int) (sn2 : Int → Int) (ls : Array Slot) (H : Heap) (locs : List Loc), (0 ≤ x ∧ x ≤ now 2) → ((e4 = 0 ∧ tk2 = tk ∧ so2 = so ∧ L0s (lA now) (lB now) (lK now pp) (now 2).toNat tk so sn1 t x sn2) ∨ (e4 = 1 ∧ L1s (lP now pp) (lA now) (lB now) (lK now pp) (now 2).toNat so sn t tk2 so2)) → ((now 2 - x).toNat < n) → (lv_has ls 6 [(5, .int (iI (x))), (4, .int (iI (e4))), (3, .int (iI (t))), (2, .int (iI (now (152 + 5 * s0)))), (0, .ref (q 36)), (1, .int (iI (s0)))]) → (va_P D vwCl (wM q C th ta fa sm tape now snaps wo sc (saG sa sp tk2 so2 sn2)) H) → (va_D A (wM q C th ta fa sm tape now snaps wo sc (saG sa sp tk2 so2 sn2))) → (va_S A s.heap H locs) → W p l e (rmN (1 + (d + 1)) (22 + 25 * (d + 1))) s m ([.ref (q 36), .int (iI (s0))] : List Value).toArray below meth c H locs 0 0 Q (F0 m 77 ls []) := by
                  intro n
                  induction n with
                  | zero => intro x e4 tk2 so2 sn2 ls H locs x1 e1 hn; exact absurd hn (Nat.not_lt_zero _)
                  | succ n ih77 =>
                    intro x e4 tk2 so2 sn2 ls H locs x1 e1 hn hl hP hD hS
                    have hn77 := hn
                    have e01 : e4 = 0 ∨ e4 = 1 := e1.elim (fun z => Or.inl z.1) (fun z => Or.inr z.1)
                    refine lv_iload hx hb dX7_getsSlot_77 (lv_at hl 0 rfl) ?_
                    refine lv_aload_n hx hb dX7_getsSlot_79 rfl (lv_at hl 4 rfl) ?_
                    refine va_get (D := D) (ci := 7) (v := .ref (q 38)) (C := RX7) (T := TX7) (N := 23) hx hb hts (by decide +kernel) hown hK hP 0 rfl rfl 11 (by decide) (hts (.fieldLink RX7 74 "BreakSetterModel" "now" "[I") (by decide +kernel)) (fun _ h9 => h9) rfl dX7_getsSlot_80 ?_
                    refine lv_iconst (v := iI (2)) hx hb dX7_getsSlot_83 rfl ?_
                    refine j_iald hx hb hK hP 2 1 rfl rfl ⟨by omega, by omega⟩ (Nat.le_of_ble_eq_true rfl) dX7_getsSlot_84 ?_
                    refine j_icmp_ge (tgt := 135) hx hb dX7_getsSlot_85 rfl ⟨by omega, by omega⟩ ⟨by omega, by omega⟩ (fun c85 => ?_) (fun c85 => ?_)
                    · skip
                      refine lv_iload hx hb dX7_getsSlot_135 (lv_at hl 1 rfl) ?_
                      refine j_if_ne (tgt := 143) hx hb dX7_getsSlot_137 rfl ⟨by omega, by omega⟩ (fun c137 => ?_) (fun c137 => ?_)
                      · skip
                        have h1s := (e1.resolve_left (fun z => c137 z.1)).2
                        have nt : ¬ sn t = 1 := fun q => by have := hN.1 t (by omega) (by omega) q; omega
                        refine lv_aload_n hx hb dX7_getsSlot_143 rfl (lv_at hl 4 rfl) ?_
                        refine va_get (D := D) (ci := 7) (v := .ref (q 42)) (C := RX7) (T := TX7) (N := 23) hx hb hts (by decide +kernel) hown hK hP 0 rfl rfl 19 (by decide) (hts (.fieldLink RX7 86 "BreakSetterModel" "taken" "[I") (by decide +kernel)) (fun _ h9 => h9) rfl dX7_getsSlot_144 ?_
                        refine lv_iload_n hx hb dX7_getsSlot_147 rfl (lv_at hl 2 rfl) ?_
                        refine lv_dup2_11 hx hb dX7_getsSlot_148 rfl rfl ?_
                        refine j_iald hx hb hK hP 6 1 rfl rfl ⟨by omega, by omega⟩ (Nat.le_of_ble_eq_true rfl) dX7_getsSlot_149 ?_
                        refine W_wen (y := iI (tk2 t)) rfl ?_
                        refine lv_iconst (v := iI (1)) hx hb dX7_getsSlot_150 rfl ?_
                        refine j_iadd hx hb dX7_getsSlot_151 ?_
                        refine j_iast hx hb hK hP hD hS 6 1 rfl rfl ⟨by omega, by omega⟩ (Nat.le_of_ble_eq_true rfl) dX7_getsSlot_152 (fun H locs hP hD hS => ?_)
                        have hP : va_P D vwCl (wM q C th ta fa sm tape now snaps wo sc (saG sa sp (up tk2 t ((tk2 t) + 1)) so2 sn2)) H := hP
                        have hD : va_D A (wM q C th ta fa sm tape now snaps wo sc (saG sa sp (up tk2 t ((tk2 t) + 1)) so2 sn2)) := hD
                        refine lv_aload_n hx hb dX7_getsSlot_153 rfl (lv_at hl 4 rfl) ?_
                        refine va_get (D := D) (ci := 7) (v := .ref (q 43)) (C := RX7) (T := TX7) (N := 23) hx hb hts (by decide +kernel) hown hK hP 0 rfl rfl 20 (by decide) (hts (.fieldLink RX7 89 "BreakSetterModel" "slotOf" "[I") (by decide +kernel)) (fun _ h9 => h9) rfl dX7_getsSlot_154 ?_
                        refine lv_iload_n hx hb dX7_getsSlot_157 rfl (lv_at hl 5 rfl) ?_
                        refine lv_iload_n hx hb dX7_getsSlot_158 rfl (lv_at hl 2 rfl) ?_
                        refine j_iast hx hb hK hP hD hS 7 1 rfl rfl ⟨by omega, by omega⟩ (Nat.le_of_ble_eq_true rfl) dX7_getsSlot_159 (fun H locs hP hD hS => ?_)
                        have hP : va_P D vwCl (wM q C th ta fa sm tape now snaps wo sc (saG sa sp (up tk2 t ((tk2 t) + 1)) (up so2 s0 t) sn2)) H := hP
                        have hD : va_D A (wM q C th ta fa sm tape now snaps wo sc (saG sa sp (up tk2 t ((tk2 t) + 1)) (up so2 s0 t) sn2)) := hD
                        refine lv_iconst (v := iI (1)) hx hb dX7_getsSlot_160 rfl ?_
                        exact hret H locs ls 161 _ (up tk2 t ((tk2 t) + 1), up so2 s0 t, sn2) dX7_getsSlot_161 (Or.inr rfl) ⟨1, rfl, Or.inr ⟨rfl, GSt_of h1s (by omega) (by omega) nt hx0.1 (by omega) px (by omega) (by omega) c39 hs⟩⟩ hP hD hS
                      · skip
                        obtain ⟨-, z1, z2, hL⟩ := e1.resolve_right (fun z => by have := z.1; omega)
                        rw [z1, z2] at hP hD
                        have dn := L0_done hc hv hw (by omega) (by omega) c39 hN hL (by omega)
                        have hP : va_P D vwCl (wM q C th ta fa sm tape now snaps wo sc (saG sa sp tk so sn2)) H := hP
                        have hD : va_D A (wM q C th ta fa sm tape now snaps wo sc (saG sa sp tk so sn2)) := hD
                        refine lv_goto (tgt := 162) hx hb dX7_getsSlot_140 rfl ?_
                        refine j_iinc (k := 2) (lv' := [(3, .int (iI (t + 1))), (5, .int (iI (x))), (4, .int (iI (e4))), (2, .int (iI (now (152 + 5 * s0)))), (0, .ref (q 36)), (1, .int (iI (s0)))]) hx hb dX7_getsSlot_162 hl rfl (by decide) rfl (fun ls hl => ?_)
                        refine lv_goto (tgt := 14) hx hb dX7_getsSlot_165 rfl ?_
                        exact ih14 (t + 1) sn2 ls H locs (by omega) (by first | exact hL.2.1 | exact s1) (by first | exact dn.1 | exact hN) (fa_step (P := fun u => 0 < lK now pp u → _) (fun u a b c => by first | exact dn.2.2 u (by omega) (by omega) (t2 u a b c) | exact t2 u a b c) (fun c => by first | exact dn.2.1 | omega)) (by omega) (lv_sub hl [0, 3, 4, 5] rfl) hP hD hS
                    · skip
                      refine lv_iload hx hb dX7_getsSlot_88 (lv_at hl 1 rfl) ?_
                      refine j_if_ne (tgt := 135) hx hb dX7_getsSlot_90 rfl ⟨by omega, by omega⟩ (fun c90 => ?_) (fun c90 => ?_)
                      · skip
                        refine lv_iload hx hb dX7_getsSlot_135 (lv_at hl 1 rfl) ?_
                        refine j_if_ne (tgt := 143) hx hb dX7_getsSlot_137 rfl ⟨by omega, by omega⟩ (fun c137 => ?_) (fun c137 => ?_)
                        · skip
                          have h1s := (e1.resolve_left (fun z => c137 z.1)).2
                          have nt : ¬ sn t = 1 := fun q => by have := hN.1 t (by omega) (by omega) q; omega
                          refine lv_aload_n hx hb dX7_getsSlot_143 rfl (lv_at hl 4 rfl) ?_
                          refine va_get (D := D) (ci := 7) (v := .ref (q 42)) (C := RX7) (T := TX7) (N := 23) hx hb hts (by decide +kernel) hown hK hP 0 rfl rfl 19 (by decide) (hts (.fieldLink RX7 86 "BreakSetterModel" "taken" "[I") (by decide +kernel)) (fun _ h9 => h9) rfl dX7_getsSlot_144 ?_
                          refine lv_iload_n hx hb dX7_getsSlot_147 rfl (lv_at hl 2 rfl) ?_
                          refine lv_dup2_11 hx hb dX7_getsSlot_148 rfl rfl ?_
                          refine j_iald hx hb hK hP 6 1 rfl rfl ⟨by omega, by omega⟩ (Nat.le_of_ble_eq_true rfl) dX7_getsSlot_149 ?_
                          refine W_wen (y := iI (tk2 t)) rfl ?_
                          refine lv_iconst (v := iI (1)) hx hb dX7_getsSlot_150 rfl ?_
                          refine j_iadd hx hb dX7_getsSlot_151 ?_
                          refine j_iast hx hb hK hP hD hS 6 1 rfl rfl ⟨by omega, by omega⟩ (Nat.le_of_ble_eq_true rfl) dX7_getsSlot_152 (fun H locs hP hD hS => ?_)
                          have hP : va_P D vwCl (wM q C th ta fa sm tape now snaps wo sc (saG sa sp (up tk2 t ((tk2 t) + 1)) so2 sn2)) H := hP
                          have hD : va_D A (wM q C th ta fa sm tape now snaps wo sc (saG sa sp (up tk2 t ((tk2 t) + 1)) so2 sn2)) := hD
                          refine lv_aload_n hx hb dX7_getsSlot_153 rfl (lv_at hl 4 rfl) ?_
                          refine va_get (D := D) (ci := 7) (v := .ref (q 43)) (C := RX7) (T := TX7) (N := 23) hx hb hts (by decide +kernel) hown hK hP 0 rfl rfl 20 (by decide) (hts (.fieldLink RX7 89 "BreakSetterModel" "slotOf" "[I") (by decide +kernel)) (fun _ h9 => h9) rfl dX7_getsSlot_154 ?_
                          refine lv_iload_n hx hb dX7_getsSlot_157 rfl (lv_at hl 5 rfl) ?_
                          refine lv_iload_n hx hb dX7_getsSlot_158 rfl (lv_at hl 2 rfl) ?_
                          refine j_iast hx hb hK hP hD hS 7 1 rfl rfl ⟨by omega, by omega⟩ (Nat.le_of_ble_eq_true rfl) dX7_getsSlot_159 (fun H locs hP hD hS => ?_)
                          have hP : va_P D vwCl (wM q C th ta fa sm tape now snaps wo sc (saG sa sp (up tk2 t ((tk2 t) + 1)) (up so2 s0 t) sn2)) H := hP
                          have hD : va_D A (wM q C th ta fa sm tape now snaps wo sc (saG sa sp (up tk2 t ((tk2 t) + 1)) (up so2 s0 t) sn2)) := hD
                          refine lv_iconst (v := iI (1)) hx hb dX7_getsSlot_160 rfl ?_
                          exact hret H locs ls 161 _ (up tk2 t ((tk2 t) + 1), up so2 s0 t, sn2) dX7_getsSlot_161 (Or.inr rfl) ⟨1, rfl, Or.inr ⟨rfl, GSt_of h1s (by omega) (by omega) nt hx0.1 (by omega) px (by omega) (by omega) c39 hs⟩⟩ hP hD hS
                        · skip
                          exact absurd c137 c90
                      · skip
                        obtain ⟨-, z1, z2, hL⟩ := e1.resolve_right (fun z => by have := z.1; omega)
                        rw [z1, z2] at hP hD
                        have sx := hv.1 x x1.1 (by omega)
                        have sr : -1 ≤ so x ∧ so x < 48 := by rcases sx with z | z; (exact ⟨by omega, by omega⟩); (have z4 := z.2.2.2; exact ⟨by omega, by omega⟩)
                        have hP : va_P D vwCl (wM q C th ta fa sm tape now snaps wo sc (saG sa sp tk so sn2)) H := hP
                        have hD : va_D A (wM q C th ta fa sm tape now snaps wo sc (saG sa sp tk so sn2)) := hD
                        refine lv_aload_n hx hb dX7_getsSlot_93 rfl (lv_at hl 4 rfl) ?_
                        refine va_get (D := D) (ci := 7) (v := .ref (q 43)) (C := RX7) (T := TX7) (N := 23) hx hb hts (by decide +kernel) hown hK hP 0 rfl rfl 20 (by decide) (hts (.fieldLink RX7 89 "BreakSetterModel" "slotOf" "[I") (by decide +kernel)) (fun _ h9 => h9) rfl dX7_getsSlot_94 ?_
                        refine lv_iload hx hb dX7_getsSlot_97 (lv_at hl 0 rfl) ?_
                        refine j_iald hx hb hK hP 7 1 rfl rfl ⟨by omega, by omega⟩ (Nat.le_of_ble_eq_true rfl) dX7_getsSlot_99 ?_
                        refine W_wen (y := iI (so x)) rfl ?_
                        refine lv_iload_n hx hb dX7_getsSlot_100 rfl (lv_at hl 2 rfl) ?_
                        refine j_icmp_ne (tgt := 129) hx hb dX7_getsSlot_101 rfl ⟨by omega, by omega⟩ ⟨by omega, by omega⟩ (fun c101 => ?_) (fun c101 => ?_)
                        · skip
                          refine j_iinc (k := 0) (lv' := [(5, .int (iI (x + 1))), (4, .int (iI (e4))), (3, .int (iI (t))), (2, .int (iI (now (152 + 5 * s0)))), (0, .ref (q 36)), (1, .int (iI (s0)))]) hx hb dX7_getsSlot_129 hl rfl (by decide) rfl (fun ls hl => ?_)
                          refine lv_goto (tgt := 77) hx hb dX7_getsSlot_132 rfl ?_
                          exact ih77 (x + 1) e4 tk so sn2 ls H locs (by omega) (by exact Or.inl ⟨c90, rfl, rfl, L0_skip hL c101⟩) (by omega) (lv_sub hl [0, 1, 2, 3, 4, 5] rfl) hP hD hS
                        · skip
                          have px2 : lP now pp x := by rcases sx with z | z; (exact absurd z (by omega)); exact z.1
                          have st2 : sn2 (so x) = 1 := by rw [c101]; exact hL.2.2.1.1 t (by omega) (by omega) (up_s _ _ _)
                          have hUx : Un sn2 < (d : Int) := by have u1 := Un_le (sn := up sn1 t 1) (sn1 := sn2) hL.2.2.1.1; have u2 := Un_up (sn := sn1) (t := t) (by omega) (by omega) (by omega); have u3 := Un_le (sn := sn) (sn1 := sn1) hN.1; omega
                          refine lv_aload_n hx hb dX7_getsSlot_104 rfl (lv_at hl 4 rfl) ?_
                          refine lv_iload hx hb dX7_getsSlot_105 (lv_at hl 0 rfl) ?_
                          refine CI_callV0 (As := [.int (iI (x))]) (rest := []) ⟨hx, hb, hml, hown, hts⟩ (IH tk so sn2 x hv hc hL.2.1 ⟨by omega, by omega⟩ px2 (Or.inr st2) hUx) (cwV 1 hts gX7_getsSlot_X7_getsSlot rfl rfl rfl (by decide +kernel) ⟨by show (1 + d) + 1 ≤ (1 + (d + 1)); omega, by show 8 + (6 + 11) + (22 + 25 * d) ≤ (22 + 25 * (d + 1)); omega⟩) (q0 := 0) rfl rfl rfl hK hNW hP hD hS hA rfl hl.1 rfl (Nat.le_of_ble_eq_true rfl) dX7_getsSlot_107 ⟨Nat.zero_le _, Nat.zero_le _⟩ (fun r ⟨tk3, so3, sn3⟩ H locs hw9 hP hD hS => ?_)
                          obtain ⟨z9, hr9, hz9⟩ := hw9
                          subst hr9
                          have z01 : z9 = 0 ∨ z9 = 1 := hz9.elim (fun z => Or.inl z.1) (fun z => Or.inr z.1)
                          have hP : va_P D vwCl (wM q C th ta fa sm tape now snaps wo sc (saG sa sp tk3 so3 sn3)) H := hP
                          have hD : va_D A (wM q C th ta fa sm tape now snaps wo sc (saG sa sp tk3 so3 sn3)) := hD
                          refine j_if_ne (tgt := 116) hx hb dX7_getsSlot_110 rfl ⟨by omega, by omega⟩ (fun c110 => ?_) (fun c110 => ?_)
                          · skip
                            have ht := (hz9.resolve_left (fun z => c110 z.1)).2
                            refine lv_aload_n hx hb dX7_getsSlot_116 rfl (lv_at hl 4 rfl) ?_
                            refine va_get (D := D) (ci := 7) (v := .ref (q 42)) (C := RX7) (T := TX7) (N := 23) hx hb hts (by decide +kernel) hown hK hP 0 rfl rfl 19 (by decide) (hts (.fieldLink RX7 86 "BreakSetterModel" "taken" "[I") (by decide +kernel)) (fun _ h9 => h9) rfl dX7_getsSlot_117 ?_
                            refine lv_iload_n hx hb dX7_getsSlot_120 rfl (lv_at hl 2 rfl) ?_
                            refine lv_dup2_11 hx hb dX7_getsSlot_121 rfl rfl ?_
                            refine j_iald hx hb hK hP 6 1 rfl rfl ⟨by omega, by omega⟩ (Nat.le_of_ble_eq_true rfl) dX7_getsSlot_122 ?_
                            refine W_wen (y := iI (tk3 t)) rfl ?_
                            refine lv_iconst (v := iI (1)) hx hb dX7_getsSlot_123 rfl ?_
                            refine j_isub hx hb dX7_getsSlot_124 ?_
                            refine j_iast hx hb hK hP hD hS 6 1 rfl rfl ⟨by omega, by omega⟩ (Nat.le_of_ble_eq_true rfl) dX7_getsSlot_125 (fun H locs hP hD hS => ?_)
                            have hP : va_P D vwCl (wM q C th ta fa sm tape now snaps wo sc (saG sa sp (up tk3 t ((tk3 t) - 1)) so3 sn3)) H := hP
                            have hD : va_D A (wM q C th ta fa sm tape now snaps wo sc (saG sa sp (up tk3 t ((tk3 t) - 1)) so3 sn3)) := hD
                            refine lv_iconst (v := iI (1)) hx hb dX7_getsSlot_126 rfl ?_
                            refine lv_istore (lv' := [(4, .int (iI (1))), (5, .int (iI (x))), (3, .int (iI (t))), (2, .int (iI (now (152 + 5 * s0)))), (0, .ref (q 36)), (1, .int (iI (s0)))]) hx hb dX7_getsSlot_127 hl (by decide) rfl (fun ls hl => ?_)
                            refine j_iinc (k := 1) (lv' := [(5, .int (iI (x + 1))), (4, .int (iI (1))), (3, .int (iI (t))), (2, .int (iI (now (152 + 5 * s0)))), (0, .ref (q 36)), (1, .int (iI (s0)))]) hx hb dX7_getsSlot_129 hl rfl (by decide) rfl (fun ls hl => ?_)
                            refine lv_goto (tgt := 77) hx hb dX7_getsSlot_132 rfl ?_
                            exact ih77 (x + 1) 1 (up tk3 t ((tk3 t) - 1)) so3 sn3 ls H locs (by omega) (by first | exact Or.inl ⟨c90, rfl, rfl, L0_skip hL c101⟩ | exact Or.inr ⟨rfl, L1_of hN (by omega) (by omega) (by omega) x1.1 (by omega) c101 c39 hv hL ht⟩) (by omega) (lv_sub hl [0, 1, 2, 3, 4, 5] rfl) hP hD hS
                          · skip
                            have hf := (hz9.resolve_right (fun z => by have := z.1; omega)).2
                            refine lv_goto (tgt := 129) hx hb dX7_getsSlot_113 rfl ?_
                            refine j_iinc (k := 0) (lv' := [(5, .int (iI (x + 1))), (4, .int (iI (e4))), (3, .int (iI (t))), (2, .int (iI (now (152 + 5 * s0)))), (0, .ref (q 36)), (1, .int (iI (s0)))]) hx hb dX7_getsSlot_129 hl rfl (by decide) rfl (fun ls hl => ?_)
                            refine lv_goto (tgt := 77) hx hb dX7_getsSlot_132 rfl ?_
                            exact ih77 (x + 1) e4 tk3 so3 sn3 ls H locs (by omega) (by first | exact Or.inl ⟨c90, rfl, rfl, L0_skip hL c101⟩ | exact Or.inl ⟨c90, hf.1, hf.2.1, L0_fail hw (by omega) (by omega) hL hf⟩) (by omega) (lv_sub hl [0, 1, 2, 3, 4, 5] rfl) hP hD hS
                exact L77 _ 0 is0 tk so (up sn1 t 1) ls H locs (by omega) (by rcases hJ with ⟨q1, q2⟩ | ⟨q1, q2⟩; (exact Or.inr ⟨q1, L1_0 hv hc (by omega) (by omega) q2⟩); (exact Or.inl ⟨q1, rfl, rfl, L0_0 q2 s1 (by omega)⟩)) (Nat.lt_succ_self _) (lv_sub hl [0, 1, 2, 3, 4, 5] rfl) hP hD hS
              exact J72 0 ls H locs (by omega)  (lv_sub hl [0, 1, 2, 3] rfl) hP hD hS
            · skip
              refine lv_iconst (v := iI (1)) hx hb dX7_getsSlot_67 rfl ?_
              refine lv_goto (tgt := 72) hx hb dX7_getsSlot_68 rfl ?_
              have J72 : ∀ (is0 : Int) (ls : Array Slot) (H : Heap) (locs : List Loc), ((is0 = 1 ∧ ¬ lK now pp t ≤ tk t) ∨ (is0 = 0 ∧ lK now pp t ≤ tk t)) → (lv_has ls 6 [(3, .int (iI (t))), (2, .int (iI (now (152 + 5 * s0)))), (0, .ref (q 36)), (1, .int (iI (s0)))]) → (va_P D vwCl (wM q C th ta fa sm tape now snaps wo sc (saG sa sp tk so (up sn1 t 1))) H) → (va_D A (wM q C th ta fa sm tape now snaps wo sc (saG sa sp tk so (up sn1 t 1)))) → (va_S A s.heap H locs) → W p l e (rmN (1 + (d + 1)) (22 + 25 * (d + 1))) s m ([.ref (q 36), .int (iI (s0))] : List Value).toArray below meth c H locs 0 0 Q (F0 m 72 ls [.int (iI (is0))]) := by
                intro is0 ls H locs hJ hl hP hD hS
                refine lv_istore (lv' := [(4, .int (iI (is0))), (3, .int (iI (t))), (2, .int (iI (now (152 + 5 * s0)))), (0, .ref (q 36)), (1, .int (iI (s0)))]) hx hb dX7_getsSlot_72 hl (by decide) rfl (fun ls hl => ?_)
                refine lv_iconst (v := iI (0)) hx hb dX7_getsSlot_74 rfl ?_
                refine lv_istore (lv' := [(5, .int (iI (0))), (4, .int (iI (is0))), (3, .int (iI (t))), (2, .int (iI (now (152 + 5 * s0)))), (0, .ref (q 36)), (1, .int (iI (s0)))]) hx hb dX7_getsSlot_75 hl (by decide) rfl (fun ls hl => ?_)
                have L77 : ∀ (n : Nat) (x : Int) (e4 : Int) (tk2 : Int → Int) (so2 : Int → Int) (sn2 : Int → Int) (ls : Array Slot) (H : Heap) (locs : List Loc), (0 ≤ x ∧ x ≤ now 2) → ((e4 = 0 ∧ tk2 = tk ∧ so2 = so ∧ L0s (lA now) (lB now) (lK now pp) (now 2).toNat tk so sn1 t x sn2) ∨ (e4 = 1 ∧ L1s (lP now pp) (lA now) (lB now) (lK now pp) (now 2).toNat so sn t tk2 so2)) → ((now 2 - x).toNat < n) → (lv_has ls 6 [(5, .int (iI (x))), (4, .int (iI (e4))), (3, .int (iI (t))), (2, .int (iI (now (152 + 5 * s0)))), (0, .ref (q 36)), (1, .int (iI (s0)))]) → (va_P D vwCl (wM q C th ta fa sm tape now snaps wo sc (saG sa sp tk2 so2 sn2)) H) → (va_D A (wM q C th ta fa sm tape now snaps wo sc (saG sa sp tk2 so2 sn2))) → (va_S A s.heap H locs) → W p l e (rmN (1 + (d + 1)) (22 + 25 * (d + 1))) s m ([.ref (q 36), .int (iI (s0))] : List Value).toArray below meth c H locs 0 0 Q (F0 m 77 ls []) := by
                  intro n
                  induction n with
                  | zero => intro x e4 tk2 so2 sn2 ls H locs x1 e1 hn; exact absurd hn (Nat.not_lt_zero _)
                  | succ n ih77 =>
                    intro x e4 tk2 so2 sn2 ls H locs x1 e1 hn hl hP hD hS
                    have hn77 := hn
                    have e01 : e4 = 0 ∨ e4 = 1 := e1.elim (fun z => Or.inl z.1) (fun z => Or.inr z.1)
                    refine lv_iload hx hb dX7_getsSlot_77 (lv_at hl 0 rfl) ?_
                    refine lv_aload_n hx hb dX7_getsSlot_79 rfl (lv_at hl 4 rfl) ?_
                    refine va_get (D := D) (ci := 7) (v := .ref (q 38)) (C := RX7) (T := TX7) (N := 23) hx hb hts (by decide +kernel) hown hK hP 0 rfl rfl 11 (by decide) (hts (.fieldLink RX7 74 "BreakSetterModel" "now" "[I") (by decide +kernel)) (fun _ h9 => h9) rfl dX7_getsSlot_80 ?_
                    refine lv_iconst (v := iI (2)) hx hb dX7_getsSlot_83 rfl ?_
                    refine j_iald hx hb hK hP 2 1 rfl rfl ⟨by omega, by omega⟩ (Nat.le_of_ble_eq_true rfl) dX7_getsSlot_84 ?_
                    refine j_icmp_ge (tgt := 135) hx hb dX7_getsSlot_85 rfl ⟨by omega, by omega⟩ ⟨by omega, by omega⟩ (fun c85 => ?_) (fun c85 => ?_)
                    · skip
                      refine lv_iload hx hb dX7_getsSlot_135 (lv_at hl 1 rfl) ?_
                      refine j_if_ne (tgt := 143) hx hb dX7_getsSlot_137 rfl ⟨by omega, by omega⟩ (fun c137 => ?_) (fun c137 => ?_)
                      · skip
                        have h1s := (e1.resolve_left (fun z => c137 z.1)).2
                        have nt : ¬ sn t = 1 := fun q => by have := hN.1 t (by omega) (by omega) q; omega
                        refine lv_aload_n hx hb dX7_getsSlot_143 rfl (lv_at hl 4 rfl) ?_
                        refine va_get (D := D) (ci := 7) (v := .ref (q 42)) (C := RX7) (T := TX7) (N := 23) hx hb hts (by decide +kernel) hown hK hP 0 rfl rfl 19 (by decide) (hts (.fieldLink RX7 86 "BreakSetterModel" "taken" "[I") (by decide +kernel)) (fun _ h9 => h9) rfl dX7_getsSlot_144 ?_
                        refine lv_iload_n hx hb dX7_getsSlot_147 rfl (lv_at hl 2 rfl) ?_
                        refine lv_dup2_11 hx hb dX7_getsSlot_148 rfl rfl ?_
                        refine j_iald hx hb hK hP 6 1 rfl rfl ⟨by omega, by omega⟩ (Nat.le_of_ble_eq_true rfl) dX7_getsSlot_149 ?_
                        refine W_wen (y := iI (tk2 t)) rfl ?_
                        refine lv_iconst (v := iI (1)) hx hb dX7_getsSlot_150 rfl ?_
                        refine j_iadd hx hb dX7_getsSlot_151 ?_
                        refine j_iast hx hb hK hP hD hS 6 1 rfl rfl ⟨by omega, by omega⟩ (Nat.le_of_ble_eq_true rfl) dX7_getsSlot_152 (fun H locs hP hD hS => ?_)
                        have hP : va_P D vwCl (wM q C th ta fa sm tape now snaps wo sc (saG sa sp (up tk2 t ((tk2 t) + 1)) so2 sn2)) H := hP
                        have hD : va_D A (wM q C th ta fa sm tape now snaps wo sc (saG sa sp (up tk2 t ((tk2 t) + 1)) so2 sn2)) := hD
                        refine lv_aload_n hx hb dX7_getsSlot_153 rfl (lv_at hl 4 rfl) ?_
                        refine va_get (D := D) (ci := 7) (v := .ref (q 43)) (C := RX7) (T := TX7) (N := 23) hx hb hts (by decide +kernel) hown hK hP 0 rfl rfl 20 (by decide) (hts (.fieldLink RX7 89 "BreakSetterModel" "slotOf" "[I") (by decide +kernel)) (fun _ h9 => h9) rfl dX7_getsSlot_154 ?_
                        refine lv_iload_n hx hb dX7_getsSlot_157 rfl (lv_at hl 5 rfl) ?_
                        refine lv_iload_n hx hb dX7_getsSlot_158 rfl (lv_at hl 2 rfl) ?_
                        refine j_iast hx hb hK hP hD hS 7 1 rfl rfl ⟨by omega, by omega⟩ (Nat.le_of_ble_eq_true rfl) dX7_getsSlot_159 (fun H locs hP hD hS => ?_)
                        have hP : va_P D vwCl (wM q C th ta fa sm tape now snaps wo sc (saG sa sp (up tk2 t ((tk2 t) + 1)) (up so2 s0 t) sn2)) H := hP
                        have hD : va_D A (wM q C th ta fa sm tape now snaps wo sc (saG sa sp (up tk2 t ((tk2 t) + 1)) (up so2 s0 t) sn2)) := hD
                        refine lv_iconst (v := iI (1)) hx hb dX7_getsSlot_160 rfl ?_
                        exact hret H locs ls 161 _ (up tk2 t ((tk2 t) + 1), up so2 s0 t, sn2) dX7_getsSlot_161 (Or.inr rfl) ⟨1, rfl, Or.inr ⟨rfl, GSt_of h1s (by omega) (by omega) nt hx0.1 (by omega) px (by omega) (by omega) c39 hs⟩⟩ hP hD hS
                      · skip
                        obtain ⟨-, z1, z2, hL⟩ := e1.resolve_right (fun z => by have := z.1; omega)
                        rw [z1, z2] at hP hD
                        have dn := L0_done hc hv hw (by omega) (by omega) c39 hN hL (by omega)
                        have hP : va_P D vwCl (wM q C th ta fa sm tape now snaps wo sc (saG sa sp tk so sn2)) H := hP
                        have hD : va_D A (wM q C th ta fa sm tape now snaps wo sc (saG sa sp tk so sn2)) := hD
                        refine lv_goto (tgt := 162) hx hb dX7_getsSlot_140 rfl ?_
                        refine j_iinc (k := 2) (lv' := [(3, .int (iI (t + 1))), (5, .int (iI (x))), (4, .int (iI (e4))), (2, .int (iI (now (152 + 5 * s0)))), (0, .ref (q 36)), (1, .int (iI (s0)))]) hx hb dX7_getsSlot_162 hl rfl (by decide) rfl (fun ls hl => ?_)
                        refine lv_goto (tgt := 14) hx hb dX7_getsSlot_165 rfl ?_
                        exact ih14 (t + 1) sn2 ls H locs (by omega) (by first | exact hL.2.1 | exact s1) (by first | exact dn.1 | exact hN) (fa_step (P := fun u => 0 < lK now pp u → _) (fun u a b c => by first | exact dn.2.2 u (by omega) (by omega) (t2 u a b c) | exact t2 u a b c) (fun c => by first | exact dn.2.1 | omega)) (by omega) (lv_sub hl [0, 3, 4, 5] rfl) hP hD hS
                    · skip
                      refine lv_iload hx hb dX7_getsSlot_88 (lv_at hl 1 rfl) ?_
                      refine j_if_ne (tgt := 135) hx hb dX7_getsSlot_90 rfl ⟨by omega, by omega⟩ (fun c90 => ?_) (fun c90 => ?_)
                      · skip
                        refine lv_iload hx hb dX7_getsSlot_135 (lv_at hl 1 rfl) ?_
                        refine j_if_ne (tgt := 143) hx hb dX7_getsSlot_137 rfl ⟨by omega, by omega⟩ (fun c137 => ?_) (fun c137 => ?_)
                        · skip
                          have h1s := (e1.resolve_left (fun z => c137 z.1)).2
                          have nt : ¬ sn t = 1 := fun q => by have := hN.1 t (by omega) (by omega) q; omega
                          refine lv_aload_n hx hb dX7_getsSlot_143 rfl (lv_at hl 4 rfl) ?_
                          refine va_get (D := D) (ci := 7) (v := .ref (q 42)) (C := RX7) (T := TX7) (N := 23) hx hb hts (by decide +kernel) hown hK hP 0 rfl rfl 19 (by decide) (hts (.fieldLink RX7 86 "BreakSetterModel" "taken" "[I") (by decide +kernel)) (fun _ h9 => h9) rfl dX7_getsSlot_144 ?_
                          refine lv_iload_n hx hb dX7_getsSlot_147 rfl (lv_at hl 2 rfl) ?_
                          refine lv_dup2_11 hx hb dX7_getsSlot_148 rfl rfl ?_
                          refine j_iald hx hb hK hP 6 1 rfl rfl ⟨by omega, by omega⟩ (Nat.le_of_ble_eq_true rfl) dX7_getsSlot_149 ?_
                          refine W_wen (y := iI (tk2 t)) rfl ?_
                          refine lv_iconst (v := iI (1)) hx hb dX7_getsSlot_150 rfl ?_
                          refine j_iadd hx hb dX7_getsSlot_151 ?_
                          refine j_iast hx hb hK hP hD hS 6 1 rfl rfl ⟨by omega, by omega⟩ (Nat.le_of_ble_eq_true rfl) dX7_getsSlot_152 (fun H locs hP hD hS => ?_)
                          have hP : va_P D vwCl (wM q C th ta fa sm tape now snaps wo sc (saG sa sp (up tk2 t ((tk2 t) + 1)) so2 sn2)) H := hP
                          have hD : va_D A (wM q C th ta fa sm tape now snaps wo sc (saG sa sp (up tk2 t ((tk2 t) + 1)) so2 sn2)) := hD
                          refine lv_aload_n hx hb dX7_getsSlot_153 rfl (lv_at hl 4 rfl) ?_
                          refine va_get (D := D) (ci := 7) (v := .ref (q 43)) (C := RX7) (T := TX7) (N := 23) hx hb hts (by decide +kernel) hown hK hP 0 rfl rfl 20 (by decide) (hts (.fieldLink RX7 89 "BreakSetterModel" "slotOf" "[I") (by decide +kernel)) (fun _ h9 => h9) rfl dX7_getsSlot_154 ?_
                          refine lv_iload_n hx hb dX7_getsSlot_157 rfl (lv_at hl 5 rfl) ?_
                          refine lv_iload_n hx hb dX7_getsSlot_158 rfl (lv_at hl 2 rfl) ?_
                          refine j_iast hx hb hK hP hD hS 7 1 rfl rfl ⟨by omega, by omega⟩ (Nat.le_of_ble_eq_true rfl) dX7_getsSlot_159 (fun H locs hP hD hS => ?_)
                          have hP : va_P D vwCl (wM q C th ta fa sm tape now snaps wo sc (saG sa sp (up tk2 t ((tk2 t) + 1)) (up so2 s0 t) sn2)) H := hP
                          have hD : va_D A (wM q C th ta fa sm tape now snaps wo sc (saG sa sp (up tk2 t ((tk2 t) + 1)) (up so2 s0 t) sn2)) := hD
                          refine lv_iconst (v := iI (1)) hx hb dX7_getsSlot_160 rfl ?_
                          exact hret H locs ls 161 _ (up tk2 t ((tk2 t) + 1), up so2 s0 t, sn2) dX7_getsSlot_161 (Or.inr rfl) ⟨1, rfl, Or.inr ⟨rfl, GSt_of h1s (by omega) (by omega) nt hx0.1 (by omega) px (by omega) (by omega) c39 hs⟩⟩ hP hD hS
                        · skip
                          exact absurd c137 c90
                      · skip
                        obtain ⟨-, z1, z2, hL⟩ := e1.resolve_right (fun z => by have := z.1; omega)
                        rw [z1, z2] at hP hD
                        have sx := hv.1 x x1.1 (by omega)
                        have sr : -1 ≤ so x ∧ so x < 48 := by rcases sx with z | z; (exact ⟨by omega, by omega⟩); (have z4 := z.2.2.2; exact ⟨by omega, by omega⟩)
                        have hP : va_P D vwCl (wM q C th ta fa sm tape now snaps wo sc (saG sa sp tk so sn2)) H := hP
                        have hD : va_D A (wM q C th ta fa sm tape now snaps wo sc (saG sa sp tk so sn2)) := hD
                        refine lv_aload_n hx hb dX7_getsSlot_93 rfl (lv_at hl 4 rfl) ?_
                        refine va_get (D := D) (ci := 7) (v := .ref (q 43)) (C := RX7) (T := TX7) (N := 23) hx hb hts (by decide +kernel) hown hK hP 0 rfl rfl 20 (by decide) (hts (.fieldLink RX7 89 "BreakSetterModel" "slotOf" "[I") (by decide +kernel)) (fun _ h9 => h9) rfl dX7_getsSlot_94 ?_
                        refine lv_iload hx hb dX7_getsSlot_97 (lv_at hl 0 rfl) ?_
                        refine j_iald hx hb hK hP 7 1 rfl rfl ⟨by omega, by omega⟩ (Nat.le_of_ble_eq_true rfl) dX7_getsSlot_99 ?_
                        refine W_wen (y := iI (so x)) rfl ?_
                        refine lv_iload_n hx hb dX7_getsSlot_100 rfl (lv_at hl 2 rfl) ?_
                        refine j_icmp_ne (tgt := 129) hx hb dX7_getsSlot_101 rfl ⟨by omega, by omega⟩ ⟨by omega, by omega⟩ (fun c101 => ?_) (fun c101 => ?_)
                        · skip
                          refine j_iinc (k := 0) (lv' := [(5, .int (iI (x + 1))), (4, .int (iI (e4))), (3, .int (iI (t))), (2, .int (iI (now (152 + 5 * s0)))), (0, .ref (q 36)), (1, .int (iI (s0)))]) hx hb dX7_getsSlot_129 hl rfl (by decide) rfl (fun ls hl => ?_)
                          refine lv_goto (tgt := 77) hx hb dX7_getsSlot_132 rfl ?_
                          exact ih77 (x + 1) e4 tk so sn2 ls H locs (by omega) (by exact Or.inl ⟨c90, rfl, rfl, L0_skip hL c101⟩) (by omega) (lv_sub hl [0, 1, 2, 3, 4, 5] rfl) hP hD hS
                        · skip
                          have px2 : lP now pp x := by rcases sx with z | z; (exact absurd z (by omega)); exact z.1
                          have st2 : sn2 (so x) = 1 := by rw [c101]; exact hL.2.2.1.1 t (by omega) (by omega) (up_s _ _ _)
                          have hUx : Un sn2 < (d : Int) := by have u1 := Un_le (sn := up sn1 t 1) (sn1 := sn2) hL.2.2.1.1; have u2 := Un_up (sn := sn1) (t := t) (by omega) (by omega) (by omega); have u3 := Un_le (sn := sn) (sn1 := sn1) hN.1; omega
                          refine lv_aload_n hx hb dX7_getsSlot_104 rfl (lv_at hl 4 rfl) ?_
                          refine lv_iload hx hb dX7_getsSlot_105 (lv_at hl 0 rfl) ?_
                          refine CI_callV0 (As := [.int (iI (x))]) (rest := []) ⟨hx, hb, hml, hown, hts⟩ (IH tk so sn2 x hv hc hL.2.1 ⟨by omega, by omega⟩ px2 (Or.inr st2) hUx) (cwV 1 hts gX7_getsSlot_X7_getsSlot rfl rfl rfl (by decide +kernel) ⟨by show (1 + d) + 1 ≤ (1 + (d + 1)); omega, by show 8 + (6 + 11) + (22 + 25 * d) ≤ (22 + 25 * (d + 1)); omega⟩) (q0 := 0) rfl rfl rfl hK hNW hP hD hS hA rfl hl.1 rfl (Nat.le_of_ble_eq_true rfl) dX7_getsSlot_107 ⟨Nat.zero_le _, Nat.zero_le _⟩ (fun r ⟨tk3, so3, sn3⟩ H locs hw9 hP hD hS => ?_)
                          obtain ⟨z9, hr9, hz9⟩ := hw9
                          subst hr9
                          have z01 : z9 = 0 ∨ z9 = 1 := hz9.elim (fun z => Or.inl z.1) (fun z => Or.inr z.1)
                          have hP : va_P D vwCl (wM q C th ta fa sm tape now snaps wo sc (saG sa sp tk3 so3 sn3)) H := hP
                          have hD : va_D A (wM q C th ta fa sm tape now snaps wo sc (saG sa sp tk3 so3 sn3)) := hD
                          refine j_if_ne (tgt := 116) hx hb dX7_getsSlot_110 rfl ⟨by omega, by omega⟩ (fun c110 => ?_) (fun c110 => ?_)
                          · skip
                            have ht := (hz9.resolve_left (fun z => c110 z.1)).2
                            refine lv_aload_n hx hb dX7_getsSlot_116 rfl (lv_at hl 4 rfl) ?_
                            refine va_get (D := D) (ci := 7) (v := .ref (q 42)) (C := RX7) (T := TX7) (N := 23) hx hb hts (by decide +kernel) hown hK hP 0 rfl rfl 19 (by decide) (hts (.fieldLink RX7 86 "BreakSetterModel" "taken" "[I") (by decide +kernel)) (fun _ h9 => h9) rfl dX7_getsSlot_117 ?_
                            refine lv_iload_n hx hb dX7_getsSlot_120 rfl (lv_at hl 2 rfl) ?_
                            refine lv_dup2_11 hx hb dX7_getsSlot_121 rfl rfl ?_
                            refine j_iald hx hb hK hP 6 1 rfl rfl ⟨by omega, by omega⟩ (Nat.le_of_ble_eq_true rfl) dX7_getsSlot_122 ?_
                            refine W_wen (y := iI (tk3 t)) rfl ?_
                            refine lv_iconst (v := iI (1)) hx hb dX7_getsSlot_123 rfl ?_
                            refine j_isub hx hb dX7_getsSlot_124 ?_
                            refine j_iast hx hb hK hP hD hS 6 1 rfl rfl ⟨by omega, by omega⟩ (Nat.le_of_ble_eq_true rfl) dX7_getsSlot_125 (fun H locs hP hD hS => ?_)
                            have hP : va_P D vwCl (wM q C th ta fa sm tape now snaps wo sc (saG sa sp (up tk3 t ((tk3 t) - 1)) so3 sn3)) H := hP
                            have hD : va_D A (wM q C th ta fa sm tape now snaps wo sc (saG sa sp (up tk3 t ((tk3 t) - 1)) so3 sn3)) := hD
                            refine lv_iconst (v := iI (1)) hx hb dX7_getsSlot_126 rfl ?_
                            refine lv_istore (lv' := [(4, .int (iI (1))), (5, .int (iI (x))), (3, .int (iI (t))), (2, .int (iI (now (152 + 5 * s0)))), (0, .ref (q 36)), (1, .int (iI (s0)))]) hx hb dX7_getsSlot_127 hl (by decide) rfl (fun ls hl => ?_)
                            refine j_iinc (k := 1) (lv' := [(5, .int (iI (x + 1))), (4, .int (iI (1))), (3, .int (iI (t))), (2, .int (iI (now (152 + 5 * s0)))), (0, .ref (q 36)), (1, .int (iI (s0)))]) hx hb dX7_getsSlot_129 hl rfl (by decide) rfl (fun ls hl => ?_)
                            refine lv_goto (tgt := 77) hx hb dX7_getsSlot_132 rfl ?_
                            exact ih77 (x + 1) 1 (up tk3 t ((tk3 t) - 1)) so3 sn3 ls H locs (by omega) (by first | exact Or.inl ⟨c90, rfl, rfl, L0_skip hL c101⟩ | exact Or.inr ⟨rfl, L1_of hN (by omega) (by omega) (by omega) x1.1 (by omega) c101 c39 hv hL ht⟩) (by omega) (lv_sub hl [0, 1, 2, 3, 4, 5] rfl) hP hD hS
                          · skip
                            have hf := (hz9.resolve_right (fun z => by have := z.1; omega)).2
                            refine lv_goto (tgt := 129) hx hb dX7_getsSlot_113 rfl ?_
                            refine j_iinc (k := 0) (lv' := [(5, .int (iI (x + 1))), (4, .int (iI (e4))), (3, .int (iI (t))), (2, .int (iI (now (152 + 5 * s0)))), (0, .ref (q 36)), (1, .int (iI (s0)))]) hx hb dX7_getsSlot_129 hl rfl (by decide) rfl (fun ls hl => ?_)
                            refine lv_goto (tgt := 77) hx hb dX7_getsSlot_132 rfl ?_
                            exact ih77 (x + 1) e4 tk3 so3 sn3 ls H locs (by omega) (by first | exact Or.inl ⟨c90, rfl, rfl, L0_skip hL c101⟩ | exact Or.inl ⟨c90, hf.1, hf.2.1, L0_fail hw (by omega) (by omega) hL hf⟩) (by omega) (lv_sub hl [0, 1, 2, 3, 4, 5] rfl) hP hD hS
                exact L77 _ 0 is0 tk so (up sn1 t 1) ls H locs (by omega) (by rcases hJ with ⟨q1, q2⟩ | ⟨q1, q2⟩; (exact Or.inr ⟨q1, L1_0 hv hc (by omega) (by omega) q2⟩); (exact Or.inl ⟨q1, rfl, rfl, L0_0 q2 s1 (by omega)⟩)) (Nat.lt_succ_self _) (lv_sub hl [0, 1, 2, 3, 4, 5] rfl) hP hD hS
              exact J72 1 ls H locs (by omega)  (lv_sub hl [0, 1, 2, 3] rfl) hP hD hS
          · skip
            refine lv_goto (tgt := 162) hx hb dX7_getsSlot_42 rfl ?_
            refine j_iinc (k := 0) (lv' := [(3, .int (iI (t + 1))), (2, .int (iI (now (152 + 5 * s0)))), (0, .ref (q 36)), (1, .int (iI (s0)))]) hx hb dX7_getsSlot_162 hl rfl (by decide) rfl (fun ls hl => ?_)
            refine lv_goto (tgt := 14) hx hb dX7_getsSlot_165 rfl ?_
            exact ih14 (t + 1) sn1 ls H locs (by omega) (by exact s1) (by exact hN) (fa_step (P := fun u => 0 < lK now pp u → _) (fun u a b c => by exact t2 u a b c) (fun c => by omega)) (by omega) (lv_sub hl [0, 1, 2, 3] rfl) hP hD hS
  exact L14 _ (now (190 + 5 * (now (152 + 5 * s0)))) sn ls s.heap [] (by omega) hb1 Nw_rf (fun u a b => absurd b (by omega)) (Nat.lt_succ_self _) (lv_sub hl [0, 1, 2, 3] rfl) hP hD hS

theorem c_X7_getsSlot_d {l : Launch} {D : va_G} {C : Nat → ClassId} {q : Nat → Nat} {th ta fa sm : Int} {tape now snaps : Int → Int} {wo : Int64} {sc : Nat → Int} {sa : Nat → Int → Int} {sp : Int → Int} {pp : Int} (hg : Wf now) (hp : 0 ≤ pp ∧ pp < 3) (hSA : shA now pp) (hsp : ∀ t : Int, 0 ≤ t → t < 48 → sp t = lK now pp t) : ∀ (d : Nat) (tk so sn : Int → Int) (s0 : Int), (vld (lP now pp) (lA now) (lB now) (lK now pp) (now 2).toNat so) → (cnt (now 2).toNat so tk) → (b01f sn) → (0 ≤ s0 ∧ s0 < now 2) → (lP now pp s0) → ((so s0 = -1 ∨ sn (so s0) = 1)) → Un sn < (d : Int) → CI (S := (Int → Int) × (Int → Int) × (Int → Int)) l yX7_getsSlot wsX7_getsSlot (1 + d) (22 + 25 * d) D C [.ref (q 36), .int (iI s0)] (wM q C th ta fa sm tape now snaps wo sc (saG sa sp tk so sn)) (fun u => wM q C th ta fa sm tape now snaps wo sc (saG sa sp (u.1) (u.2.1) (u.2.2))) (fun r u => ∃ z : Int, r = iI z ∧ ((z = 0 ∧ GSf (lA now) (lB now) (lK now pp) (now 2).toNat tk so sn s0 u.1 u.2.1 u.2.2) ∨ (z = 1 ∧ GSt (lP now pp) (lA now) (lB now) (lK now pp) (now 2).toNat so sn s0 u.1 u.2.1)))
  | 0, tk, so, sn, s0, _, _, _, _, _, _, hU => absurd (Un_rng sn).1 (by omega)
  | d + 1, tk, so, sn, s0, hv, hc, hb1, hx0, px, hs, hU => gs_step hg hp hSA hsp (c_X7_getsSlot_d hg hp hSA hsp d) hv hc hb1 hx0 px hs hU

theorem c_X7_getsSlot {l : Launch} {D : va_G} {C : Nat → ClassId} {q : Nat → Nat} {th ta fa sm : Int} {tape now snaps : Int → Int} {wo : Int64} {sc : Nat → Int} {sa : Nat → Int → Int} {sp : Int → Int} {pp : Int} (hg : Wf now) (hp : 0 ≤ pp ∧ pp < 3) (hSA : shA now pp) (hsp : ∀ t : Int, 0 ≤ t → t < 48 → sp t = lK now pp t) {tk so sn : Int → Int} {s0 : Int} (hv : vld (lP now pp) (lA now) (lB now) (lK now pp) (now 2).toNat so) (hc : cnt (now 2).toNat so tk) (hb1 : b01f sn) (hx0 : 0 ≤ s0 ∧ s0 < now 2) (px : lP now pp s0) (hs : (so s0 = -1 ∨ sn (so s0) = 1)) : CI (S := (Int → Int) × (Int → Int) × (Int → Int)) l yX7_getsSlot wsX7_getsSlot 50 1247 D C [.ref (q 36), .int (iI s0)] (wM q C th ta fa sm tape now snaps wo sc (saG sa sp tk so sn)) (fun u => wM q C th ta fa sm tape now snaps wo sc (saG sa sp (u.1) (u.2.1) (u.2.2))) (fun r u => ∃ z : Int, r = iI z ∧ ((z = 0 ∧ GSf (lA now) (lB now) (lK now pp) (now 2).toNat tk so sn s0 u.1 u.2.1 u.2.2) ∨ (z = 1 ∧ GSt (lP now pp) (lA now) (lB now) (lK now pp) (now 2).toNat so sn s0 u.1 u.2.1))) := c_X7_getsSlot_d hg hp hSA hsp 49 tk so sn s0 hv hc hb1 hx0 px hs (by have := (Un_rng sn).2; omega)

set_option maxHeartbeats 4000000 in
set_option maxRecDepth 100000 in
theorem c_X7_least {l : Launch} {D : va_G} {C : Nat → ClassId} {q : Nat → Nat} {th ta fa sm : Int} {tape now snaps : Int → Int} {wo : Int64} {sc : Nat → Int} {sa : Nat → Int → Int} {sp tk so sn : Int → Int} {pp : Int} (hg : Wf now) (hp0 : R32 pp) : CI (S := (Int → Int) × (Int → Int) × (Int → Int) × (Int → Int)) l yX7_least wsX7_least 51 1272 D C [.ref (q 36), .int (iI (pp))] (wM q C th ta fa sm tape now snaps wo sc (saG sa sp tk so sn)) (fun u => wM q C 0 ta fa sm tape now snaps wo sc (saG sa (u.1) (u.2.1) (u.2.2.1) (u.2.2.2))) (fun r u => r = iI (leastF now pp)) := by
  refine CI_of (cc := cX7_least) (maxL := 5) (by decide) rfl (Nat.le_of_ble_eq_true rfl) ?_
  intro p e s m below meth c A Q ls hx hb hml hown hts hK hNW hA hl hP hD hS hret
  have hl : lv_has ls 5 [(0, .ref (q 36)), (1, .int (iI (pp)))] := hl
  have n := Wf_n hg
  refine lv_aload_n hx hb dX7_least_0 rfl (lv_at hl 0 rfl) ?_
  refine lv_iconst (v := iI (0)) hx hb dX7_least_1 rfl ?_
  refine va_put (D := D) (ci := 7) (v := .int (iI (0))) (ty := .int) (C := RX7) (T := TX7) (N := 23) hx hb hts (by decide +kernel) tyX7 tyX7_ok nmX7 hown hK hP hD hS 0 rfl rfl 0 (by decide) (hts (.fieldLink RX7 1 "BreakSetterModel" "thrown" "I") (by decide +kernel)) (fun _ h9 => h9) rfl (by decide +kernel) rfl rfl (Nat.le_of_ble_eq_true rfl) dX7_least_2 (fun H locs hP hD hS => ?_)
  have hP : va_P D vwCl (wM q C 0 ta fa sm tape now snaps wo sc (saG sa sp tk so sn)) H := hP
  have hD : va_D A (wM q C 0 ta fa sm tape now snaps wo sc (saG sa sp tk so sn)) := hD
  refine lv_aload_n hx hb dX7_least_5 rfl (lv_at hl 0 rfl) ?_
  refine lv_iload_n hx hb dX7_least_6 rfl (lv_at hl 1 rfl) ?_
  refine CR_callV (As := [.int (iI (pp))]) (rest := []) ⟨hx, hb, hml, hown, hts⟩ (c_X7_isPost MN_wM hg hp0) (cwV 1 hts gX7_least_X7_isPost rfl rfl rfl (by decide +kernel) ⟨Nat.le_of_ble_eq_true rfl, Nat.le_of_ble_eq_true rfl⟩) (q0 := 0) rfl rfl rfl hK hNW hP rfl hl.1 rfl (Nat.le_of_ble_eq_true rfl) dX7_least_7 ⟨Nat.zero_le _, Nat.zero_le _⟩ ?_
  refine j_ifneB (tgt := 15) hx hb dX7_least_10 rfl (fun c10 => ?_) (fun c10 => ?_)
  · skip
    refine lv_iconst (v := iI (0)) hx hb dX7_least_15 rfl ?_
    refine lv_istore_n (lv' := [(2, .int (iI (0))), (0, .ref (q 36)), (1, .int (iI (pp)))]) hx hb dX7_least_16 rfl hl (by decide) rfl (fun ls hl => ?_)
    have L17 : ∀ (n : Nat) (i : Int) (ls : Array Slot) (H : Heap) (locs : List Loc), (0 ≤ i ∧ i ≤ now 2) → (∀ x : Int, 0 ≤ x → x < i → shO now pp x) → ((now 2 - i).toNat < n) → (lv_has ls 5 [(2, .int (iI (i))), (0, .ref (q 36)), (1, .int (iI (pp)))]) → (va_P D vwCl (wM q C 0 ta fa sm tape now snaps wo sc (saG sa sp tk so sn)) H) → (va_D A (wM q C 0 ta fa sm tape now snaps wo sc (saG sa sp tk so sn))) → (va_S A s.heap H locs) → W p l e (rmN 51 1272) s m ([.ref (q 36), .int (iI (pp))] : List Value).toArray below meth c H locs 0 0 Q (F0 m 17 ls []) := by
      intro n
      induction n with
      | zero => intro i ls H locs h1 h2 hn; exact absurd hn (Nat.not_lt_zero _)
      | succ n ih17 =>
        intro i ls H locs h1 h2 hn hl hP hD hS
        have hn17 := hn
        refine lv_iload_n hx hb dX7_least_17 rfl (lv_at hl 0 rfl) ?_
        refine lv_aload_n hx hb dX7_least_18 rfl (lv_at hl 1 rfl) ?_
        refine va_get (D := D) (ci := 7) (v := .ref (q 38)) (C := RX7) (T := TX7) (N := 23) hx hb hts (by decide +kernel) hown hK hP 0 rfl rfl 11 (by decide) (hts (.fieldLink RX7 74 "BreakSetterModel" "now" "[I") (by decide +kernel)) (fun _ h9 => h9) rfl dX7_least_19 ?_
        refine lv_iconst (v := iI (2)) hx hb dX7_least_22 rfl ?_
        refine j_iald hx hb hK hP 2 1 rfl rfl ⟨by omega, by omega⟩ (Nat.le_of_ble_eq_true rfl) dX7_least_23 ?_
        refine j_icmp_ge (tgt := 70) hx hb dX7_least_24 rfl ⟨by omega, by omega⟩ ⟨by omega, by omega⟩ (fun c24 => ?_) (fun c24 => ?_)
        · skip
          have hSA : shA now pp := fun x a b => h2 x a (by omega)
          refine lv_iconst (v := iI (0)) hx hb dX7_least_70 rfl ?_
          refine lv_istore_n (lv' := [(2, .int (iI (0))), (0, .ref (q 36)), (1, .int (iI (pp)))]) hx hb dX7_least_71 rfl hl (by decide) rfl (fun ls hl => ?_)
          refine lv_iconst (v := iI (0)) hx hb dX7_least_72 rfl ?_
          refine lv_istore_n (lv' := [(3, .int (iI (0))), (2, .int (iI (0))), (0, .ref (q 36)), (1, .int (iI (pp)))]) hx hb dX7_least_73 rfl hl (by decide) rfl (fun ls hl => ?_)
          have L74 : ∀ (n : Nat) (t : Int) (cs : Int) (sp2 : Int → Int) (tk2 : Int → Int) (ls : Array Slot) (H : Heap) (locs : List Loc), (0 ≤ t ∧ t ≤ 48) → (cs = lC now pp t) → (∀ u : Int, 0 ≤ u → u < t → sp2 u = lK now pp u) → (∀ u : Int, 0 ≤ u → u < t → tk2 u = 0) → ((48 - t).toNat < n) → (lv_has ls 5 [(3, .int (iI (t))), (2, .int (iI (cs))), (0, .ref (q 36)), (1, .int (iI (pp)))]) → (va_P D vwCl (wM q C 0 ta fa sm tape now snaps wo sc (saG sa sp2 tk2 so sn)) H) → (va_D A (wM q C 0 ta fa sm tape now snaps wo sc (saG sa sp2 tk2 so sn))) → (va_S A s.heap H locs) → W p l e (rmN 51 1272) s m ([.ref (q 36), .int (iI (pp))] : List Value).toArray below meth c H locs 0 0 Q (F0 m 74 ls []) := by
            intro n
            induction n with
            | zero => intro t cs sp2 tk2 ls H locs t1 t2 t3 t4 hn; exact absurd hn (Nat.not_lt_zero _)
            | succ n ih74 =>
              intro t cs sp2 tk2 ls H locs t1 t2 t3 t4 hn hl hP hD hS
              have hn74 := hn
              have cr := lC_rng hg (p := pp) (i := t) (by omega) (by omega) (by omega) (by omega)
              refine lv_iload_n hx hb dX7_least_74 rfl (lv_at hl 0 rfl) ?_
              refine lv_bipush (v := iI (48)) hx hb dX7_least_75 (by decide) ?_
              refine j_icmp_ge (tgt := 130) hx hb dX7_least_77 rfl ⟨by omega, by omega⟩ ⟨by decide, by decide⟩ (fun c77 => ?_) (fun c77 => ?_)
              · skip
                refine lv_iconst (v := iI (0)) hx hb dX7_least_130 rfl ?_
                refine lv_istore_n (lv' := [(3, .int (iI (0))), (2, .int (iI (cs))), (0, .ref (q 36)), (1, .int (iI (pp)))]) hx hb dX7_least_131 rfl hl (by decide) rfl (fun ls hl => ?_)
                have L132 : ∀ (n : Nat) (x : Int) (so2 : Int → Int) (ls : Array Slot) (H : Heap) (locs : List Loc), (0 ≤ x ∧ x ≤ 8) → (∀ u : Int, 0 ≤ u → u < x → so2 u = -1) → ((8 - x).toNat < n) → (lv_has ls 5 [(3, .int (iI (x))), (2, .int (iI (cs))), (0, .ref (q 36)), (1, .int (iI (pp)))]) → (va_P D vwCl (wM q C 0 ta fa sm tape now snaps wo sc (saG sa sp2 tk2 so2 sn)) H) → (va_D A (wM q C 0 ta fa sm tape now snaps wo sc (saG sa sp2 tk2 so2 sn))) → (va_S A s.heap H locs) → W p l e (rmN 51 1272) s m ([.ref (q 36), .int (iI (pp))] : List Value).toArray below meth c H locs 0 0 Q (F0 m 132 ls []) := by
                  intro n
                  induction n with
                  | zero => intro x so2 ls H locs x1 x2 hn; exact absurd hn (Nat.not_lt_zero _)
                  | succ n ih132 =>
                    intro x so2 ls H locs x1 x2 hn hl hP hD hS
                    have hn132 := hn
                    refine lv_iload_n hx hb dX7_least_132 rfl (lv_at hl 0 rfl) ?_
                    refine lv_bipush (v := iI (8)) hx hb dX7_least_133 (by decide) ?_
                    refine j_icmp_ge (tgt := 151) hx hb dX7_least_135 rfl ⟨by omega, by omega⟩ ⟨by decide, by decide⟩ (fun c135 => ?_) (fun c135 => ?_)
                    · skip
                      have hsp : ∀ u : Int, 0 ≤ u → u < 48 → sp2 u = lK now pp u := fun u a b => t3 u a (by omega)
                      refine lv_iconst (v := iI (0)) hx hb dX7_least_151 rfl ?_
                      refine lv_istore_n (lv' := [(3, .int (iI (0))), (2, .int (iI (cs))), (0, .ref (q 36)), (1, .int (iI (pp)))]) hx hb dX7_least_152 rfl hl (by decide) rfl (fun ls hl => ?_)
                      have L153 : ∀ (n : Nat) (i : Int) (cn : Int) (tk2 : Int → Int) (so2 : Int → Int) (sn2 : Int → Int) (ls : Array Slot) (H : Heap) (locs : List Loc), (0 ≤ i ∧ i ≤ now 2) → (LSs (lP now pp) (lA now) (lB now) (lK now pp) (now 2).toNat so2 tk2 i) → (cn = lC now pp 48 + lU now so2 pp i) → ((now 2 - i).toNat < n) → (lv_has ls 5 [(3, .int (iI (i))), (2, .int (iI (cn))), (0, .ref (q 36)), (1, .int (iI (pp)))]) → (va_P D vwCl (wM q C 0 ta fa sm tape now snaps wo sc (saG sa sp2 tk2 so2 sn2)) H) → (va_D A (wM q C 0 ta fa sm tape now snaps wo sc (saG sa sp2 tk2 so2 sn2))) → (va_S A s.heap H locs) → W p l e (rmN 51 1272) s m ([.ref (q 36), .int (iI (pp))] : List Value).toArray below meth c H locs 0 0 Q (F0 m 153 ls []) := by
                        intro n
                        induction n with
                        | zero => intro i cn tk2 so2 sn2 ls H locs i1 hLS i2 hn; exact absurd hn (Nat.not_lt_zero _)
                        | succ n ih153 =>
                          intro i cn tk2 so2 sn2 ls H locs i1 hLS i2 hn hl hP hD hS
                          have hn153 := hn
                          refine lv_iload_n hx hb dX7_least_153 rfl (lv_at hl 0 rfl) ?_
                          refine lv_aload_n hx hb dX7_least_154 rfl (lv_at hl 2 rfl) ?_
                          refine va_get (D := D) (ci := 7) (v := .ref (q 38)) (C := RX7) (T := TX7) (N := 23) hx hb hts (by decide +kernel) hown hK hP 0 rfl rfl 11 (by decide) (hts (.fieldLink RX7 74 "BreakSetterModel" "now" "[I") (by decide +kernel)) (fun _ h9 => h9) rfl dX7_least_155 ?_
                          refine lv_iconst (v := iI (2)) hx hb dX7_least_158 rfl ?_
                          refine j_iald hx hb hK hP 2 1 rfl rfl ⟨by omega, by omega⟩ (Nat.le_of_ble_eq_true rfl) dX7_least_159 ?_
                          refine j_icmp_ge (tgt := 217) hx hb dX7_least_160 rfl ⟨by omega, by omega⟩ ⟨by omega, by omega⟩ (fun c160 => ?_) (fun c160 => ?_)
                          · skip
                            refine lv_iload_n hx hb dX7_least_217 rfl (lv_at hl 1 rfl) ?_
                            exact hret H locs ls 218 _ (sp2, tk2, so2, sn2) dX7_least_218 (congrArg iI (by rw [leastF_t c10 hSA (LS_least (so := so2) (tk := tk2) (by have z := hLS; rw [show i = now 2 by omega] at z; exact z) (by omega)), i2, show i = now 2 by omega])) hP hD hS
                          · skip
                            have b := Wf_sh hg (s := i) (by omega) (by omega)
                            refine lv_aload_n hx hb dX7_least_163 rfl (lv_at hl 2 rfl) ?_
                            refine lv_iload_n hx hb dX7_least_164 rfl (lv_at hl 0 rfl) ?_
                            refine lv_iconst (v := iI (0)) hx hb dX7_least_165 rfl ?_
                            refine CR_callV (As := [.int (iI (i)), .int (iI (0))]) (rest := []) ⟨hx, hb, hml, hown, hts⟩ (c_X7_duty MN_wM (by omega) (by omega)) (cwV 2 hts gX7_least_X7_duty rfl rfl rfl (by decide +kernel) ⟨Nat.le_of_ble_eq_true rfl, Nat.le_of_ble_eq_true rfl⟩) (q0 := 0) rfl rfl rfl hK hNW hP rfl hl.1 rfl (Nat.le_of_ble_eq_true rfl) dX7_least_166 ⟨Nat.zero_le _, Nat.zero_le _⟩ ?_
                            refine W_wen (y := iI (now (148 + 5 * i))) (congrArg iI (congrArg now (by omega))) ?_
                            refine lv_iload_n hx hb dX7_least_169 rfl (lv_at hl 3 rfl) ?_
                            refine j_icmp_eq (tgt := 176) hx hb dX7_least_170 rfl ⟨by omega, by omega⟩ ⟨by omega, by omega⟩ (fun c170 => ?_) (fun c170 => ?_)
                            · skip
                              refine lv_iconst (v := iI (0)) hx hb dX7_least_176 rfl ?_
                              refine lv_istore (lv' := [(4, .int (iI (0))), (3, .int (iI (i))), (2, .int (iI (cn))), (0, .ref (q 36)), (1, .int (iI (pp)))]) hx hb dX7_least_177 hl (by decide) rfl (fun ls hl => ?_)
                              have L179 : ∀ (n : Nat) (j : Int) (snz : Int → Int) (ls : Array Slot) (H : Heap) (locs : List Loc), (0 ≤ j ∧ j ≤ 48) → (∀ u : Int, 0 ≤ u → u < j → snz u = 0) → ((48 - j).toNat < n) → (lv_has ls 5 [(4, .int (iI (j))), (3, .int (iI (i))), (2, .int (iI (cn))), (0, .ref (q 36)), (1, .int (iI (pp)))]) → (va_P D vwCl (wM q C 0 ta fa sm tape now snaps wo sc (saG sa sp2 tk2 so2 snz)) H) → (va_D A (wM q C 0 ta fa sm tape now snaps wo sc (saG sa sp2 tk2 so2 snz))) → (va_S A s.heap H locs) → W p l e (rmN 51 1272) s m ([.ref (q 36), .int (iI (pp))] : List Value).toArray below meth c H locs 0 0 Q (F0 m 179 ls []) := by
                                intro n
                                induction n with
                                | zero => intro j snz ls H locs j1 hz hn; exact absurd hn (Nat.not_lt_zero _)
                                | succ n ih179 =>
                                  intro j snz ls H locs j1 hz hn hl hP hD hS
                                  have hn179 := hn
                                  refine lv_iload hx hb dX7_least_179 (lv_at hl 0 rfl) ?_
                                  refine lv_bipush (v := iI (48)) hx hb dX7_least_181 (by decide) ?_
                                  refine j_icmp_ge (tgt := 200) hx hb dX7_least_183 rfl ⟨by omega, by omega⟩ ⟨by decide, by decide⟩ (fun c183 => ?_) (fun c183 => ?_)
                                  · skip
                                    refine lv_aload_n hx hb dX7_least_200 rfl (lv_at hl 3 rfl) ?_
                                    refine lv_iload_n hx hb dX7_least_201 rfl (lv_at hl 1 rfl) ?_
                                    refine CI_callV0 (As := [.int (iI (i))]) (rest := []) ⟨hx, hb, hml, hown, hts⟩ (c_X7_getsSlot hg ⟨by omega, by omega⟩ hSA hsp hLS.1 hLS.2.1 (fun t a b => Or.inl (hz t a (by omega))) ⟨by omega, by omega⟩ c170 (Or.inl (hLS.2.2.1 i (by omega) (by omega)))) (cwV 1 hts gX7_least_X7_getsSlot rfl rfl rfl (by decide +kernel) ⟨Nat.le_of_ble_eq_true rfl, Nat.le_of_ble_eq_true rfl⟩) (q0 := 0) rfl rfl rfl hK hNW hP hD hS hA rfl hl.1 rfl (Nat.le_of_ble_eq_true rfl) dX7_least_202 ⟨Nat.zero_le _, Nat.zero_le _⟩ (fun r ⟨tk3, so3, sn3⟩ H locs hw9 hP hD hS => ?_)
                                    obtain ⟨z9, hr9, hz9⟩ := hw9
                                    subst hr9
                                    have z01 : z9 = 0 ∨ z9 = 1 := hz9.elim (fun z => Or.inl z.1) (fun z => Or.inr z.1)
                                    have hP : va_P D vwCl (wM q C 0 ta fa sm tape now snaps wo sc (saG sa sp2 tk3 so3 sn3)) H := hP
                                    have hD : va_D A (wM q C 0 ta fa sm tape now snaps wo sc (saG sa sp2 tk3 so3 sn3)) := hD
                                    refine j_if_ne (tgt := 211) hx hb dX7_least_205 rfl ⟨by omega, by omega⟩ (fun c205 => ?_) (fun c205 => ?_)
                                    · skip
                                      have ly := LS_yes i1.1 (by omega) hLS (hz9.resolve_left (fun z => c205 z.1)).2
                                      refine j_iinc (k := 1) (lv' := [(3, .int (iI (i + 1))), (4, .int (iI (j))), (2, .int (iI (cn))), (0, .ref (q 36)), (1, .int (iI (pp)))]) hx hb dX7_least_211 hl rfl (by decide) rfl (fun ls hl => ?_)
                                      refine lv_goto (tgt := 153) hx hb dX7_least_214 rfl ?_
                                      exact ih153 (i + 1) cn tk3 so3 sn3 ls H locs (by omega) (by first | exact ly.1 | exact LS_skip hLS c170) (by rw [lU_s i1.1]; first | (rw [bI_f (fun q => ly.2.2 q.2), lU_cong (m' := so2) (fun x a b => ly.2.1 x a (by omega) (by omega))]; omega; done) | (rw [bI_f (fun q => c170 q.1)]; omega; done)) (by omega) (lv_sub hl [0, 2, 3, 4] rfl) hP hD hS
                                    · skip
                                      have hf := (hz9.resolve_right (fun z => by have := z.1; omega)).2
                                      have f1 : tk3 = tk2 := hf.1
                                      have f2 : so3 = so2 := hf.2.1
                                      have ln := LS_no (fun x a b d => by have w := lAB hg hSA a (by omega) d; exact ⟨w.1, w.2.2.1⟩) i1.1 (by omega) c170 (fun t a b => hz t a (by omega)) hLS hf
                                      refine j_iinc (k := 2) (lv' := [(2, .int (iI (cn + 1))), (4, .int (iI (j))), (3, .int (iI (i))), (0, .ref (q 36)), (1, .int (iI (pp)))]) hx hb dX7_least_208 hl rfl (by decide) rfl (fun ls hl => ?_)
                                      refine j_iinc (k := 2) (lv' := [(3, .int (iI (i + 1))), (2, .int (iI (cn + 1))), (4, .int (iI (j))), (0, .ref (q 36)), (1, .int (iI (pp)))]) hx hb dX7_least_211 hl rfl (by decide) rfl (fun ls hl => ?_)
                                      refine lv_goto (tgt := 153) hx hb dX7_least_214 rfl ?_
                                      exact ih153 (i + 1) (cn + 1) tk3 so3 sn3 ls H locs (by omega) (by first | (rw [f1, f2]; exact ln; done) | exact LS_skip hLS c170) (by rw [lU_s i1.1]; first | (rw [f2, bI_t ⟨c170, hLS.2.2.1 i (by omega) (by omega)⟩]; omega; done) | (rw [bI_f (fun q => c170 q.1)]; omega; done)) (by omega) (lv_sub hl [0, 1, 3, 4] rfl) hP hD hS
                                  · skip
                                    refine lv_aload_n hx hb dX7_least_186 rfl (lv_at hl 3 rfl) ?_
                                    refine va_get (D := D) (ci := 7) (v := .ref (q 44)) (C := RX7) (T := TX7) (N := 23) hx hb hts (by decide +kernel) hown hK hP 0 rfl rfl 21 (by decide) (hts (.fieldLink RX7 92 "BreakSetterModel" "seen" "[Z") (by decide +kernel)) (fun _ h9 => h9) rfl dX7_least_187 ?_
                                    refine lv_iload hx hb dX7_least_190 (lv_at hl 0 rfl) ?_
                                    refine lv_iconst (v := iI (0)) hx hb dX7_least_192 rfl ?_
                                    refine j_zast (v := 0) hx hb hK hP hD hS 8 2 rfl rfl ⟨by omega, by omega⟩ (Nat.le_of_ble_eq_true rfl) rfl dX7_least_193 (fun H locs hP hD hS => ?_)
                                    have hP : va_P D vwCl (wM q C 0 ta fa sm tape now snaps wo sc (saG sa sp2 tk2 so2 (up snz j 0))) H := hP
                                    have hD : va_D A (wM q C 0 ta fa sm tape now snaps wo sc (saG sa sp2 tk2 so2 (up snz j 0))) := hD
                                    refine j_iinc (k := 0) (lv' := [(4, .int (iI (j + 1))), (3, .int (iI (i))), (2, .int (iI (cn))), (0, .ref (q 36)), (1, .int (iI (pp)))]) hx hb dX7_least_194 hl rfl (by decide) rfl (fun ls hl => ?_)
                                    refine lv_goto (tgt := 179) hx hb dX7_least_197 rfl ?_
                                    exact ih179 (j + 1) (up snz j 0) ls H locs (by omega) (fa_step (fun u a b => by rw [up_n _ _ (by omega)]; exact hz u a b) (up_s _ _ _)) (by omega) (lv_sub hl [0, 1, 2, 3, 4] rfl) hP hD hS
                              exact L179 _ 0 sn2 ls H locs (by omega) (fun x a b => absurd b (by omega)) (Nat.lt_succ_self _) (lv_sub hl [0, 1, 2, 3, 4] rfl) hP hD hS
                            · skip
                              refine lv_goto (tgt := 211) hx hb dX7_least_173 rfl ?_
                              refine j_iinc (k := 0) (lv' := [(3, .int (iI (i + 1))), (2, .int (iI (cn))), (0, .ref (q 36)), (1, .int (iI (pp)))]) hx hb dX7_least_211 hl rfl (by decide) rfl (fun ls hl => ?_)
                              refine lv_goto (tgt := 153) hx hb dX7_least_214 rfl ?_
                              exact ih153 (i + 1) cn tk2 so2 sn2 ls H locs (by omega) (by exact LS_skip hLS c170) (by rw [lU_s i1.1]; (rw [bI_f (fun q => c170 q.1)]; omega; done)) (by omega) (lv_sub hl [0, 1, 2, 3] rfl) hP hD hS
                      exact L153 _ 0 cs tk2 so2 sn ls H locs (by omega) (LS_0 (fun u a b => x2 u a (by omega)) (fun u a b => t4 u a (by omega))) (by rw [t2, show t = 48 by omega]; show _ = _ + (0 : Int); omega) (Nat.lt_succ_self _) (lv_sub hl [0, 1, 2, 3] rfl) hP hD hS
                    · skip
                      refine lv_aload_n hx hb dX7_least_138 rfl (lv_at hl 2 rfl) ?_
                      refine va_get (D := D) (ci := 7) (v := .ref (q 43)) (C := RX7) (T := TX7) (N := 23) hx hb hts (by decide +kernel) hown hK hP 0 rfl rfl 20 (by decide) (hts (.fieldLink RX7 89 "BreakSetterModel" "slotOf" "[I") (by decide +kernel)) (fun _ h9 => h9) rfl dX7_least_139 ?_
                      refine lv_iload_n hx hb dX7_least_142 rfl (lv_at hl 0 rfl) ?_
                      refine lv_iconst (v := iI (-1)) hx hb dX7_least_143 rfl ?_
                      refine j_iast hx hb hK hP hD hS 7 1 rfl rfl ⟨by omega, by omega⟩ (Nat.le_of_ble_eq_true rfl) dX7_least_144 (fun H locs hP hD hS => ?_)
                      have hP : va_P D vwCl (wM q C 0 ta fa sm tape now snaps wo sc (saG sa sp2 tk2 (up so2 x (-1)) sn)) H := hP
                      have hD : va_D A (wM q C 0 ta fa sm tape now snaps wo sc (saG sa sp2 tk2 (up so2 x (-1)) sn)) := hD
                      refine j_iinc (k := 0) (lv' := [(3, .int (iI (x + 1))), (2, .int (iI (cs))), (0, .ref (q 36)), (1, .int (iI (pp)))]) hx hb dX7_least_145 hl rfl (by decide) rfl (fun ls hl => ?_)
                      refine lv_goto (tgt := 132) hx hb dX7_least_148 rfl ?_
                      exact ih132 (x + 1) (up so2 x (-1)) ls H locs (by omega) (fa_step (fun u a b => by rw [up_n _ _ (by omega)]; exact x2 u a b) (up_s _ _ _)) (by omega) (lv_sub hl [0, 1, 2, 3] rfl) hP hD hS
                exact L132 _ 0 so ls H locs (by omega) (fun x a b => absurd b (by omega)) (Nat.lt_succ_self _) (lv_sub hl [0, 1, 2, 3] rfl) hP hD hS
              · skip
                have kr := lK_rng hg (p := pp) (t := t) (by omega) (by omega) (by omega) (by omega)
                refine lv_aload_n hx hb dX7_least_80 rfl (lv_at hl 2 rfl) ?_
                refine va_get (D := D) (ci := 7) (v := .ref (q 41)) (C := RX7) (T := TX7) (N := 23) hx hb hts (by decide +kernel) hown hK hP 0 rfl rfl 18 (by decide) (hts (.fieldLink RX7 83 "BreakSetterModel" "spare" "[I") (by decide +kernel)) (fun _ h9 => h9) rfl dX7_least_81 ?_
                refine lv_iload_n hx hb dX7_least_84 rfl (lv_at hl 0 rfl) ?_
                refine lv_aload_n hx hb dX7_least_85 rfl (lv_at hl 2 rfl) ?_
                refine lv_iload_n hx hb dX7_least_86 rfl (lv_at hl 3 rfl) ?_
                refine lv_iload_n hx hb dX7_least_87 rfl (lv_at hl 0 rfl) ?_
                refine CR_callV (As := [.int (iI (pp)), .int (iI (t))]) (rest := [.int (iI (t)), .ref (q 41)]) ⟨hx, hb, hml, hown, hts⟩ (c_X7_onDuty MN_wM hg (by omega) (by omega)) (cwV 2 hts gX7_least_X7_onDuty rfl rfl rfl (by decide +kernel) ⟨Nat.le_of_ble_eq_true rfl, Nat.le_of_ble_eq_true rfl⟩) (q0 := 0) rfl rfl rfl hK hNW hP rfl hl.1 rfl (Nat.le_of_ble_eq_true rfl) dX7_least_88 ⟨Nat.zero_le _, Nat.zero_le _⟩ ?_
                refine lv_aload_n hx hb dX7_least_91 rfl (lv_at hl 2 rfl) ?_
                refine lv_iload_n hx hb dX7_least_92 rfl (lv_at hl 3 rfl) ?_
                refine lv_iload_n hx hb dX7_least_93 rfl (lv_at hl 0 rfl) ?_
                refine CR_callV (As := [.int (iI (pp)), .int (iI (t))]) (rest := [.int (iI (onD now pp t)), .int (iI (t)), .ref (q 41)]) ⟨hx, hb, hml, hown, hts⟩ (c_X7_needOf MN_wM (by omega) (by omega)) (cwV 2 hts gX7_least_X7_needOf rfl rfl rfl (by decide +kernel) ⟨Nat.le_of_ble_eq_true rfl, Nat.le_of_ble_eq_true rfl⟩) (q0 := 0) rfl rfl rfl hK hNW hP rfl hl.1 rfl (Nat.le_of_ble_eq_true rfl) dX7_least_94 ⟨Nat.zero_le _, Nat.zero_le _⟩ ?_
                refine j_isub hx hb dX7_least_97 ?_
                refine j_iast hx hb hK hP hD hS 5 1 rfl rfl ⟨by omega, by omega⟩ (Nat.le_of_ble_eq_true rfl) dX7_least_98 (fun H locs hP hD hS => ?_)
                have hP : va_P D vwCl (wM q C 0 ta fa sm tape now snaps wo sc (saG sa (up sp2 t ((onD now pp t) - (now (4 + 48 * pp + t)))) tk2 so sn)) H := hP
                have hD : va_D A (wM q C 0 ta fa sm tape now snaps wo sc (saG sa (up sp2 t ((onD now pp t) - (now (4 + 48 * pp + t)))) tk2 so sn)) := hD
                refine lv_aload_n hx hb dX7_least_99 rfl (lv_at hl 2 rfl) ?_
                refine va_get (D := D) (ci := 7) (v := .ref (q 42)) (C := RX7) (T := TX7) (N := 23) hx hb hts (by decide +kernel) hown hK hP 0 rfl rfl 19 (by decide) (hts (.fieldLink RX7 86 "BreakSetterModel" "taken" "[I") (by decide +kernel)) (fun _ h9 => h9) rfl dX7_least_100 ?_
                refine lv_iload_n hx hb dX7_least_103 rfl (lv_at hl 0 rfl) ?_
                refine lv_iconst (v := iI (0)) hx hb dX7_least_104 rfl ?_
                refine j_iast hx hb hK hP hD hS 6 1 rfl rfl ⟨by omega, by omega⟩ (Nat.le_of_ble_eq_true rfl) dX7_least_105 (fun H locs hP hD hS => ?_)
                have hP : va_P D vwCl (wM q C 0 ta fa sm tape now snaps wo sc (saG sa (up sp2 t ((onD now pp t) - (now (4 + 48 * pp + t)))) (up tk2 t 0) so sn)) H := hP
                have hD : va_D A (wM q C 0 ta fa sm tape now snaps wo sc (saG sa (up sp2 t ((onD now pp t) - (now (4 + 48 * pp + t)))) (up tk2 t 0) so sn)) := hD
                refine lv_aload_n hx hb dX7_least_106 rfl (lv_at hl 2 rfl) ?_
                refine va_get (D := D) (ci := 7) (v := .ref (q 41)) (C := RX7) (T := TX7) (N := 23) hx hb hts (by decide +kernel) hown hK hP 0 rfl rfl 18 (by decide) (hts (.fieldLink RX7 83 "BreakSetterModel" "spare" "[I") (by decide +kernel)) (fun _ h9 => h9) rfl dX7_least_107 ?_
                refine lv_iload_n hx hb dX7_least_110 rfl (lv_at hl 0 rfl) ?_
                refine j_iald hx hb hK hP 5 1 rfl rfl ⟨by omega, by omega⟩ (Nat.le_of_ble_eq_true rfl) dX7_least_111 ?_
                refine W_wen (y := iI ((up sp2 t ((onD now pp t) - (now (4 + 48 * pp + t)))) t)) rfl ?_
                refine W_wen (y := iI (lK now pp t)) (congrArg iI (by rw [up_s]; rfl)) ?_
                refine j_if_ge (tgt := 124) hx hb dX7_least_112 rfl ⟨by omega, by omega⟩ (fun c112 => ?_) (fun c112 => ?_)
                · skip
                  refine j_iinc (k := 0) (lv' := [(3, .int (iI (t + 1))), (2, .int (iI (cs))), (0, .ref (q 36)), (1, .int (iI (pp)))]) hx hb dX7_least_124 hl rfl (by decide) rfl (fun ls hl => ?_)
                  refine lv_goto (tgt := 74) hx hb dX7_least_127 rfl ?_
                  exact ih74 (t + 1) cs (up sp2 t ((onD now pp t) - (now (4 + 48 * pp + t)))) (up tk2 t 0) ls H locs (by omega) (by show _ = smI (fun t => max (0 - lK now pp t) 0) (t + 1); rw [smI_s _ t1.1]; show _ = lC now pp t + max (0 - lK now pp t) 0; omega) (fa_step (fun u a b => by rw [up_n _ _ (by omega)]; exact t3 u a b) (by rw [up_s]; rfl)) (fa_step (fun u a b => by rw [up_n _ _ (by omega)]; exact t4 u a b) (up_s _ _ _)) (by omega) (lv_sub hl [0, 1, 2, 3] rfl) hP hD hS
                · skip
                  refine lv_iload_n hx hb dX7_least_115 rfl (lv_at hl 1 rfl) ?_
                  refine lv_aload_n hx hb dX7_least_116 rfl (lv_at hl 2 rfl) ?_
                  refine va_get (D := D) (ci := 7) (v := .ref (q 41)) (C := RX7) (T := TX7) (N := 23) hx hb hts (by decide +kernel) hown hK hP 0 rfl rfl 18 (by decide) (hts (.fieldLink RX7 83 "BreakSetterModel" "spare" "[I") (by decide +kernel)) (fun _ h9 => h9) rfl dX7_least_117 ?_
                  refine lv_iload_n hx hb dX7_least_120 rfl (lv_at hl 0 rfl) ?_
                  refine j_iald hx hb hK hP 5 1 rfl rfl ⟨by omega, by omega⟩ (Nat.le_of_ble_eq_true rfl) dX7_least_121 ?_
                  refine W_wen (y := iI ((up sp2 t ((onD now pp t) - (now (4 + 48 * pp + t)))) t)) rfl ?_
                  refine W_wen (y := iI (lK now pp t)) (congrArg iI (by rw [up_s]; rfl)) ?_
                  refine j_isub hx hb dX7_least_122 ?_
                  refine lv_istore_n (lv' := [(2, .int (iI (cs - (lK now pp t)))), (3, .int (iI (t))), (0, .ref (q 36)), (1, .int (iI (pp)))]) hx hb dX7_least_123 rfl hl (by decide) rfl (fun ls hl => ?_)
                  refine j_iinc (k := 1) (lv' := [(3, .int (iI (t + 1))), (2, .int (iI (cs - (lK now pp t)))), (0, .ref (q 36)), (1, .int (iI (pp)))]) hx hb dX7_least_124 hl rfl (by decide) rfl (fun ls hl => ?_)
                  refine lv_goto (tgt := 74) hx hb dX7_least_127 rfl ?_
                  exact ih74 (t + 1) (cs - (lK now pp t)) (up sp2 t ((onD now pp t) - (now (4 + 48 * pp + t)))) (up tk2 t 0) ls H locs (by omega) (by show _ = smI (fun t => max (0 - lK now pp t) 0) (t + 1); rw [smI_s _ t1.1]; show _ = lC now pp t + max (0 - lK now pp t) 0; omega) (fa_step (fun u a b => by rw [up_n _ _ (by omega)]; exact t3 u a b) (by rw [up_s]; rfl)) (fa_step (fun u a b => by rw [up_n _ _ (by omega)]; exact t4 u a b) (up_s _ _ _)) (by omega) (lv_sub hl [0, 1, 2, 3] rfl) hP hD hS
          exact L74 _ 0 0 sp tk ls H locs (by omega) rfl (fun x a b => absurd b (by omega)) (fun x a b => absurd b (by omega)) (Nat.lt_succ_self _) (lv_sub hl [0, 1, 2, 3] rfl) hP hD hS
        · skip
          have b := Wf_sh hg (s := i) (by omega) (by omega)
          refine lv_aload_n hx hb dX7_least_27 rfl (lv_at hl 1 rfl) ?_
          refine lv_iload_n hx hb dX7_least_28 rfl (lv_at hl 0 rfl) ?_
          refine lv_iconst (v := iI (0)) hx hb dX7_least_29 rfl ?_
          refine CR_callV (As := [.int (iI (i)), .int (iI (0))]) (rest := []) ⟨hx, hb, hml, hown, hts⟩ (c_X7_duty MN_wM (by omega) (by omega)) (cwV 2 hts gX7_least_X7_duty rfl rfl rfl (by decide +kernel) ⟨Nat.le_of_ble_eq_true rfl, Nat.le_of_ble_eq_true rfl⟩) (q0 := 0) rfl rfl rfl hK hNW hP rfl hl.1 rfl (Nat.le_of_ble_eq_true rfl) dX7_least_30 ⟨Nat.zero_le _, Nat.zero_le _⟩ ?_
          refine W_wen (y := iI (now (148 + 5 * i))) (congrArg iI (congrArg now (by omega))) ?_
          refine lv_iload_n hx hb dX7_least_33 rfl (lv_at hl 2 rfl) ?_
          refine j_icmp_ne (tgt := 64) hx hb dX7_least_34 rfl ⟨by omega, by omega⟩ ⟨by omega, by omega⟩ (fun c34 => ?_) (fun c34 => ?_)
          · skip
            refine j_iinc (k := 0) (lv' := [(2, .int (iI (i + 1))), (0, .ref (q 36)), (1, .int (iI (pp)))]) hx hb dX7_least_64 hl rfl (by decide) rfl (fun ls hl => ?_)
            refine lv_goto (tgt := 17) hx hb dX7_least_67 rfl ?_
            exact ih17 (i + 1) ls H locs (by omega) (fa_step h2 (fun e => by exact absurd e c34)) (by omega) (lv_sub hl [0, 1, 2] rfl) hP hD hS
          · skip
            refine lv_aload_n hx hb dX7_least_37 rfl (lv_at hl 1 rfl) ?_
            refine lv_iload_n hx hb dX7_least_38 rfl (lv_at hl 0 rfl) ?_
            refine lv_iconst (v := iI (3)) hx hb dX7_least_39 rfl ?_
            refine CR_callV (As := [.int (iI (i)), .int (iI (3))]) (rest := []) ⟨hx, hb, hml, hown, hts⟩ (c_X7_duty MN_wM (by omega) (by omega)) (cwV 2 hts gX7_least_X7_duty rfl rfl rfl (by decide +kernel) ⟨Nat.le_of_ble_eq_true rfl, Nat.le_of_ble_eq_true rfl⟩) (q0 := 0) rfl rfl rfl hK hNW hP rfl hl.1 rfl (Nat.le_of_ble_eq_true rfl) dX7_least_40 ⟨Nat.zero_le _, Nat.zero_le _⟩ ?_
            refine W_wen (y := iI (now (151 + 5 * i))) (congrArg iI (congrArg now (by omega))) ?_
            refine lv_iconst (v := iI (1)) hx hb dX7_least_43 rfl ?_
            refine j_icmp_ne (tgt := 62) hx hb dX7_least_44 rfl ⟨by omega, by omega⟩ ⟨by decide, by decide⟩ (fun c44 => ?_) (fun c44 => ?_)
            · skip
              refine lv_iconst (v := iI (-1)) hx hb dX7_least_62 rfl ?_
              exact hret H locs ls 63 _ (sp, tk, so, sn) dX7_least_63 (by rw [leastF_f (fun q => by have z := q.2 i (by omega) (by omega) c34; exact c44 z.1)]) hP hD hS
            · skip
              have b2 := Wf_p hg (k := now (152 + 5 * i)) (by omega) (by omega)
              refine lv_aload_n hx hb dX7_least_47 rfl (lv_at hl 1 rfl) ?_
              refine lv_aload_n hx hb dX7_least_48 rfl (lv_at hl 1 rfl) ?_
              refine lv_iload_n hx hb dX7_least_49 rfl (lv_at hl 0 rfl) ?_
              refine lv_iconst (v := iI (4)) hx hb dX7_least_50 rfl ?_
              refine CR_callV (As := [.int (iI (i)), .int (iI (4))]) (rest := [.ref (q 36)]) ⟨hx, hb, hml, hown, hts⟩ (c_X7_duty MN_wM (by omega) (by omega)) (cwV 2 hts gX7_least_X7_duty rfl rfl rfl (by decide +kernel) ⟨Nat.le_of_ble_eq_true rfl, Nat.le_of_ble_eq_true rfl⟩) (q0 := 0) rfl rfl rfl hK hNW hP rfl hl.1 rfl (Nat.le_of_ble_eq_true rfl) dX7_least_51 ⟨Nat.zero_le _, Nat.zero_le _⟩ ?_
              refine W_wen (y := iI (now (152 + 5 * i))) (congrArg iI (congrArg now (by omega))) ?_
              refine lv_iconst (v := iI (1)) hx hb dX7_least_54 rfl ?_
              refine CR_callV (As := [.int (iI (now (152 + 5 * i))), .int (iI (1))]) (rest := []) ⟨hx, hb, hml, hown, hts⟩ (c_X7_its MN_wM (by omega) (by omega)) (cwV 2 hts gX7_least_X7_its rfl rfl rfl (by decide +kernel) ⟨Nat.le_of_ble_eq_true rfl, Nat.le_of_ble_eq_true rfl⟩) (q0 := 0) rfl rfl rfl hK hNW hP rfl hl.1 rfl (Nat.le_of_ble_eq_true rfl) dX7_least_55 ⟨Nat.zero_le _, Nat.zero_le _⟩ ?_
              refine W_wen (y := iI (now (189 + 5 * (now (152 + 5 * i))))) (congrArg iI (congrArg now (by omega))) ?_
              refine lv_iconst (v := iI (1)) hx hb dX7_least_58 rfl ?_
              refine j_icmp_eq (tgt := 64) hx hb dX7_least_59 rfl ⟨by omega, by omega⟩ ⟨by decide, by decide⟩ (fun c59 => ?_) (fun c59 => ?_)
              · skip
                refine j_iinc (k := 0) (lv' := [(2, .int (iI (i + 1))), (0, .ref (q 36)), (1, .int (iI (pp)))]) hx hb dX7_least_64 hl rfl (by decide) rfl (fun ls hl => ?_)
                refine lv_goto (tgt := 17) hx hb dX7_least_67 rfl ?_
                exact ih17 (i + 1) ls H locs (by omega) (fa_step h2 (fun e => by first | exact ⟨c44, c59⟩ | exact absurd e c34)) (by omega) (lv_sub hl [0, 1, 2] rfl) hP hD hS
              · skip
                refine lv_iconst (v := iI (-1)) hx hb dX7_least_62 rfl ?_
                exact hret H locs ls 63 _ (sp, tk, so, sn) dX7_least_63 (by rw [leastF_f (fun q => by have z := q.2 i (by omega) (by omega) c34; first | exact c44 z.1 | exact c59 z.2)]) hP hD hS
    exact L17 _ 0 ls H locs (by omega) (fun x a b => absurd b (by omega)) (Nat.lt_succ_self _) (lv_sub hl [0, 1, 2] rfl) hP hD hS
  · skip
    refine lv_iconst (v := iI (-1)) hx hb dX7_least_13 rfl ?_
    exact hret H locs ls 14 _ (sp, tk, so, sn) dX7_least_14 (by rw [leastF_f (fun q => c10 q.1)]) hP hD hS
