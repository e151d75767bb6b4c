theorem flf_z (rd : Int → Int) : ∀ j : Int, 0 ≤ j → j < 308 → flf rd 0 308 j = 0 := fun j a b => if_pos ⟨a, b⟩
set_option maxHeartbeats 4000000 in
set_option maxRecDepth 100000 in
theorem c_X7_readWhole {l : Launch} {D : va_G} {C : Nat → ClassId} {q : Nat → Nat} {th ta fa sm : Int} {tape now snaps : Int → Int} {wz zz zt zf zs zn zh zg zk zl : Int} {rd : Int → Int} {sa : Nat → Int → Int} (hb9 : ∀ k : Int, 0 ≤ k → k < 640 → 0 ≤ tape k ∧ tape k < 256) (hz : 0 ≤ zz ∧ zz ≤ 640) {e0 : Int} (hLA : LA tape zz e0 zt zf zs zn wz) {spo sfr sto sln sea : Int} (hM : MI (0, 0, spo, sfr, sto, sln, sea, zk, zl, rd)) : CI (S := Int × Int × Int × Int × Int × Int × Int × Int × Int × Int × (Int → Int)) l yX7_readWhole wsX7_readWhole 6 133 D C [.ref (q 36)] (wT q C th ta fa sm tape now snaps wz zz zt zf zs zn zh zg zk zl rd sa) (fun u => wT q C th ta (u.2.2.2.2.2.2.1) sm tape now snaps (u.2.2.2.2.1) zz (u.1) (u.2.1) (u.2.2.1) (u.2.2.2.1) (u.2.2.2.2.2.2.2.1) (u.2.2.2.2.2.1) (u.2.2.2.2.2.2.2.2.1) (u.2.2.2.2.2.2.2.2.2.1) (u.2.2.2.2.2.2.2.2.2.2) sa) (fun r u => ∃ z : Int, r = iI z ∧ ((z = 0 ∧ runT tape zz (0, 0, spo, sfr, sto, sln, sea, zk, zl, rd) e0 = .inl (u.2.2.2.2.2.2.1, u.2.2.2.2.2.2.2.1)) ∨ (z = 1 ∧ u.2.2.2.2.2.2.1 = fa ∧ runT tape zz (0, 0, spo, sfr, sto, sln, sea, zk, zl, rd) e0 = .inr (u.2.2.2.2.2.2.2.2.2.1, u.2.2.2.2.2.2.2.2.2.2) ∧ Wf (u.2.2.2.2.2.2.2.2.2.2)))) := by
  refine CZ_of (cc := cX7_readWhole) (maxL := 1) (by decide) rfl (Nat.le_of_ble_eq_true rfl) ?_
  intro p e s m below meth c A Q ls hx hb hml hown hts hK hNW hA hl hP hD hS hret
  have hl : lv_has ls 1 [(0, .ref (q 36))] := hl
  have hq0 := LA_zs hLA
  refine lv_aload_n hx hb dX7_readWhole_0 rfl (lv_at hl 0 rfl) ?_
  refine CI_callV0 (As := []) (rest := []) ⟨hx, hb, hml, hown, hts⟩ (c_X7_readPosts hb9 hz hLA hM) (cwV 0 hts gX7_readWhole_X7_readPosts rfl rfl rfl (by decide +kernel) ⟨Nat.le_of_ble_eq_true rfl, Nat.le_of_ble_eq_true rfl⟩) (q0 := 0) rfl rfl rfl hK hNW hP hD hS hA rfl hl.1 rfl (Nat.le_of_ble_eq_true rfl) dX7_readWhole_1 ⟨Nat.zero_le _, Nat.zero_le _⟩ (fun r ⟨t1, f1, s1, n1, w1, g1, fa1, zh1, r1⟩ H locs hw9 hP hD hS => ?_)
  obtain ⟨z1, hr9, hw9⟩ := hw9
  subst hr9
  have hz1 : RN tape zz (0, 0, spo, sfr, sto, sln, sea, zk, zl, rd) e0 fa z1 t1 f1 s1 n1 w1 fa1 zh1 1 0 zk (zl + 1) r1 := hw9
  have zb1 : z1 = 0 ∨ z1 = 1 := hz1.elim (fun z => Or.inl z.1) (fun z => Or.inr z.1)
  have hP : va_P D vwCl (wT q C th ta fa1 sm tape now snaps w1 zz t1 f1 s1 n1 zh1 g1 zk zl r1 sa) H := hP
  have hD : va_D A (wT q C th ta fa1 sm tape now snaps w1 zz t1 f1 s1 n1 zh1 g1 zk zl r1 sa) := hD
  refine j_if_ne (tgt := 9) hx hb dX7_readWhole_4 rfl ⟨by omega, by omega⟩ (fun c4 => ?_) (fun c4 => ?_)
  · skip
    have ok1 := (hz1.resolve_left (fun z => c4 z.1)).2
    obtain ⟨fa7, e7, p7, f7, o7, l7, a7, ok7⟩ := ok1
    refine lv_aload_n hx hb dX7_readWhole_9 rfl (lv_at hl 0 rfl) ?_
    refine lv_dup hx hb dX7_readWhole_10 rfl ?_
    refine va_get (D := D) (ci := 7) (v := .int (iI (zl))) (C := RX7) (T := TX7) (N := 23) hx hb hts (by decide +kernel) hown hK hP 0 rfl rfl 17 (by decide) (hts (.fieldLink RX7 140 "BreakSetterModel" "lines" "I") (by decide +kernel)) (fun _ h9 => h9) rfl dX7_readWhole_11 ?_
    refine lv_iconst (v := iI (1)) hx hb dX7_readWhole_14 rfl ?_
    refine j_iadd hx hb dX7_readWhole_15 ?_
    refine va_put (D := D) (ci := 7) (v := .int (iI (zl + 1))) (ty := .int) (C := RX7) (T := TX7) (N := 23) hx hb hts (by decide +kernel) tyX7 tyX7_ok nmX7 hown hK hP hD hS 0 rfl rfl 17 (by decide) (hts (.fieldLink RX7 140 "BreakSetterModel" "lines" "I") (by decide +kernel)) (fun _ h9 => h9) rfl (by decide +kernel) rfl rfl (Nat.le_of_ble_eq_true rfl) dX7_readWhole_16 (fun H locs hP hD hS => ?_)
    have hP : va_P D vwCl (wT q C th ta fa1 sm tape now snaps w1 zz t1 f1 s1 n1 zh1 g1 zk (zl + 1) r1 sa) H := hP
    have hD : va_D A (wT q C th ta fa1 sm tape now snaps w1 zz t1 f1 s1 n1 zh1 g1 zk (zl + 1) r1 sa) := hD
    have L19 : ∀ (n : Nat) (x0 : Int) (x1 : Int) (x2 : Int) (x3 : Int) (x4 : Int) (x5 : Int) (x6 : Int) (x7 : Int) (x8 : Int) (x9 : Int) (r1 : Int → Int) (e1 : Int) (p1 : Int) (f1 : Int) (o1 : Int) (l1 : Int) (a1 : Int) (ls : Array Slot) (H : Heap) (locs : List Loc), (LA tape zz e1 x0 x1 x2 x3 x4) → (MI (1, 0, p1, f1, o1, l1, a1, x8, x9, r1)) → (runT tape zz (0, 0, spo, sfr, sto, sln, sea, zk, zl, rd) e0 = runT tape zz (1, 0, p1, f1, o1, l1, a1, x8, x9, r1) e1) → (x6 = fa) → ((zz - e1).toNat < n) → (lv_has ls 1 [(0, .ref (q 36))]) → (va_P D vwCl (wT q C th ta x6 sm tape now snaps x4 zz x0 x1 x2 x3 x7 x5 x8 x9 r1 sa) H) → (va_D A (wT q C th ta x6 sm tape now snaps x4 zz x0 x1 x2 x3 x7 x5 x8 x9 r1 sa)) → (va_S A s.heap H locs) → W p l e (rmN 6 133) s m ([.ref (q 36)] : List Value).toArray below meth c H locs 0 0 Q (F0 m 19 ls []) := by
      intro n
      induction n with
      | zero => intro x0 x1 x2 x3 x4 x5 x6 x7 x8 x9 r1 e1 p1 f1 o1 l1 a1 ls H locs L1 M1 W1 F1 hn; exact absurd hn (Nat.not_lt_zero _)
      | succ n ih19 =>
        intro x0 x1 x2 x3 x4 x5 x6 x7 x8 x9 r1 e1 p1 f1 o1 l1 a1 ls H locs L1 M1 W1 F1 hn hl hP hD hS
        have hn19 := hn
        have qx := LA_zs L1
        refine lv_aload_n hx hb dX7_readWhole_19 rfl (lv_at hl 0 rfl) ?_
        refine lv_bipush (v := iI (110)) hx hb dX7_readWhole_20 (by decide) ?_
        refine lv_bipush (v := iI (101)) hx hb dX7_readWhole_22 (by decide) ?_
        refine lv_bipush (v := iI (101)) hx hb dX7_readWhole_24 (by decide) ?_
        refine lv_bipush (v := iI (100)) hx hb dX7_readWhole_26 (by decide) ?_
        refine CR_callS (As := [.int (iI (110)), .int (iI (101)), .int (iI (101)), .int (iI (100))]) (rest := [.ref (q 36)]) ⟨hx, hb, hml, hown, hts⟩ (c_X7_four ⟨by decide, by decide⟩ ⟨by decide, by decide⟩ ⟨by decide, by decide⟩ ⟨by decide, by decide⟩) (cwS 4 hts gX7_readWhole_X7_four rfl rfl rfl (by decide +kernel) ⟨Nat.le_of_ble_eq_true rfl, Nat.le_of_ble_eq_true rfl⟩) hK hNW hP rfl hl.1 rfl (Nat.le_of_ble_eq_true rfl) dX7_readWhole_28 ⟨Nat.zero_le _, Nat.zero_le _⟩ ?_
        refine CR_callV (As := [.long (lI (729 * (27 * (110 - 96) + 101 - 96) + (27 * (101 - 96) + 100 - 96)))]) (rest := []) ⟨hx, hb, hml, hown, hts⟩ (c_X7_isWord ⟨by omega, by omega⟩ (LA_wz L1) ⟨by decide, by decide⟩) (cwV 1 hts gX7_readWhole_X7_isWord rfl rfl rfl (by decide +kernel) ⟨Nat.le_of_ble_eq_true rfl, Nat.le_of_ble_eq_true rfl⟩) (q0 := 0) rfl rfl rfl hK hNW hP rfl hl.1 rfl (Nat.le_of_ble_eq_true rfl) dX7_readWhole_31 ⟨Nat.zero_le _, Nat.zero_le _⟩ ?_
        refine j_ifeqB (tgt := 59) hx hb dX7_readWhole_34 rfl (fun c34 => ?_) (fun c34 => ?_)
        · skip
          have L59 : ∀ (n : Nat) (y0 : Int) (y1 : Int) (y2 : Int) (y3 : Int) (y4 : Int) (y5 : Int) (y6 : Int) (y7 : Int) (y8 : Int) (y9 : Int) (r2 : Int → Int) (q2 : Int) (i2 : Int) (e2 : Int) (p2 : Int) (f2 : Int) (o2 : Int) (l2 : Int) (a2 : Int) (ls : Array Slot) (H : Heap) (locs : List Loc), (LA tape zz e2 y0 y1 y2 y3 y4) → (MI (q2, i2, p2, f2, o2, l2, a2, y8, y9, r2)) → (runT tape zz (0, 0, spo, sfr, sto, sln, sea, zk, zl, rd) e0 = runT tape zz (q2, i2, p2, f2, o2, l2, a2, y8, y9, r2) e2) → (y6 = fa) → (q2 = 1 ∨ q2 = 2) → (q2 = 1 → ¬ (y2 = 2 ∧ y4 = 279346)) → ((zz - e2).toNat < n) → (lv_has ls 1 [(0, .ref (q 36))]) → (va_P D vwCl (wT q C th ta y6 sm tape now snaps y4 zz y0 y1 y2 y3 y7 y5 y8 y9 r2 sa) H) → (va_D A (wT q C th ta y6 sm tape now snaps y4 zz y0 y1 y2 y3 y7 y5 y8 y9 r2 sa)) → (va_S A s.heap H locs) → W p l e (rmN 6 133) s m ([.ref (q 36)] : List Value).toArray below meth c H locs 0 0 Q (F0 m 59 ls []) := by
            intro n
            induction n with
            | zero => intro y0 y1 y2 y3 y4 y5 y6 y7 y8 y9 r2 q2 i2 e2 p2 f2 o2 l2 a2 ls H locs L2 M2 W2 F2 Q2 N2 hn; exact absurd hn (Nat.not_lt_zero _)
            | succ n ih59 =>
              intro y0 y1 y2 y3 y4 y5 y6 y7 y8 y9 r2 q2 i2 e2 p2 f2 o2 l2 a2 ls H locs L2 M2 W2 F2 Q2 N2 hn hl hP hD hS
              have hn59 := hn
              have qy := LA_zs L2
              refine lv_aload_n hx hb dX7_readWhole_59 rfl (lv_at hl 0 rfl) ?_
              refine lv_bipush (v := iI (115)) hx hb dX7_readWhole_60 (by decide) ?_
              refine lv_bipush (v := iI (104)) hx hb dX7_readWhole_62 (by decide) ?_
              refine lv_bipush (v := iI (105)) hx hb dX7_readWhole_64 (by decide) ?_
              refine lv_bipush (v := iI (102)) hx hb dX7_readWhole_66 (by decide) ?_
              refine lv_bipush (v := iI (116)) hx hb dX7_readWhole_68 (by decide) ?_
              refine CR_callS (As := [.int (iI (115)), .int (iI (104)), .int (iI (105)), .int (iI (102)), .int (iI (116))]) (rest := [.ref (q 36)]) ⟨hx, hb, hml, hown, hts⟩ (c_X7_five ⟨by decide, by decide⟩ ⟨by decide, by decide⟩ ⟨by decide, by decide⟩ ⟨by decide, by decide⟩ ⟨by decide, by decide⟩) (cwS 5 hts gX7_readWhole_X7_five rfl rfl rfl (by decide +kernel) ⟨Nat.le_of_ble_eq_true rfl, Nat.le_of_ble_eq_true rfl⟩) hK hNW hP rfl hl.1 rfl (Nat.le_of_ble_eq_true rfl) dX7_readWhole_70 ⟨Nat.zero_le _, Nat.zero_le _⟩ ?_
              refine CR_callV (As := [.long (lI (27 * (729 * (27 * (115 - 96) + 104 - 96) + (27 * (105 - 96) + 102 - 96)) + 116 - 96))]) (rest := []) ⟨hx, hb, hml, hown, hts⟩ (c_X7_isWord ⟨by omega, by omega⟩ (LA_wz L2) ⟨by decide, by decide⟩) (cwV 1 hts gX7_readWhole_X7_isWord rfl rfl rfl (by decide +kernel) ⟨Nat.le_of_ble_eq_true rfl, Nat.le_of_ble_eq_true rfl⟩) (q0 := 0) rfl rfl rfl hK hNW hP rfl hl.1 rfl (Nat.le_of_ble_eq_true rfl) dX7_readWhole_73 ⟨Nat.zero_le _, Nat.zero_le _⟩ ?_
              refine j_ifeqB (tgt := 101) hx hb dX7_readWhole_76 rfl (fun c76 => ?_) (fun c76 => ?_)
              · skip
                have nn := LA_no (ins := i2) (po := p2) (fr := f2) (to := o2) (ln := l2) (ea := a2) (nds := y8) (li := y9) (g := r2) L2 (Or.inr Q2) (fun z => by omega) N2 (fun _ z => c76 ⟨z.1, by omega⟩)
                refine lv_aload_n hx hb dX7_readWhole_101 rfl (lv_at hl 0 rfl) ?_
                refine va_get (D := D) (ci := 7) (v := .int (iI (y2))) (C := RX7) (T := TX7) (N := 23) hx hb hts (by decide +kernel) hown hK hP 0 rfl rfl 6 (by decide) (hts (.fieldLink RX7 27 "BreakSetterModel" "sort" "I") (by decide +kernel)) (fun _ h9 => h9) rfl dX7_readWhole_102 ?_
                refine j_if_eq (tgt := 116) hx hb dX7_readWhole_105 rfl ⟨by omega, by omega⟩ (fun c105 => ?_) (fun c105 => ?_)
                · skip
                  refine lv_iconst (v := iI (1)) hx hb dX7_readWhole_116 rfl ?_
                  refine lv_goto (tgt := 121) hx hb dX7_readWhole_117 rfl ?_
                  exact hret H locs ls 121 _ (y0, y1, y2, y3, y4, y5, y6, y7, y8, y9, r2) dX7_readWhole_121 (Or.inr rfl) ⟨1, rfl, Or.inr ⟨rfl, F2, W2.trans (nn.2 (by omega) c105), MI_Wf Q2 M2⟩⟩ hP hD hS
                · skip
                  refine lv_aload_n hx hb dX7_readWhole_108 rfl (lv_at hl 0 rfl) ?_
                  refine lv_iconst (v := iI (1)) hx hb dX7_readWhole_109 rfl ?_
                  refine CI_callV0 (As := [.int (iI (1))]) (rest := []) ⟨hx, hb, hml, hown, hts⟩ (c_X7_bad ⟨by omega, by omega⟩) (cwV 1 hts gX7_readWhole_X7_bad rfl rfl rfl (by decide +kernel) ⟨Nat.le_of_ble_eq_true rfl, Nat.le_of_ble_eq_true rfl⟩) (q0 := 0) rfl rfl rfl hK hNW hP hD hS hA rfl hl.1 rfl (Nat.le_of_ble_eq_true rfl) dX7_readWhole_110 ⟨Nat.zero_le _, Nat.zero_le _⟩ (fun r b110 H locs hw9 hP hD hS => ?_)
                  obtain ⟨hr9, hb110⟩ := hw9
                  subst hr9
                  have hP : va_P D vwCl (wT q C th ta b110 sm tape now snaps y4 zz y0 y1 y2 y3 y1 y5 y8 y9 r2 sa) H := hP
                  have hD : va_D A (wT q C th ta b110 sm tape now snaps y4 zz y0 y1 y2 y3 y1 y5 y8 y9 r2 sa) := hD
                  refine j_if_eq (tgt := 120) hx hb dX7_readWhole_113 rfl ⟨by decide, by decide⟩ (fun c113 => ?_) (fun c113 => ?_)
                  · skip
                    refine lv_iconst (v := iI (0)) hx hb dX7_readWhole_120 rfl ?_
                    exact hret H locs ls 121 _ (y0, y1, y2, y3, y4, y5, b110, y1, y8, y9, r2) dX7_readWhole_121 (Or.inl rfl) ⟨0, rfl, Or.inl ⟨rfl, by show _ = Sum.inl (b110, y1); rw [hb110, ite_self]; exact W2.trans (nn.1 (Or.inr c105))⟩⟩ hP hD hS
                  · exact absurd c113 (by decide)
              · skip
                refine lv_aload_n hx hb dX7_readWhole_79 rfl (lv_at hl 0 rfl) ?_
                refine CI_callV0 (As := []) (rest := []) ⟨hx, hb, hml, hown, hts⟩ (c_X7_readShift hb9 hz L2 M2 Q2 ⟨c76.1, by omega⟩) (cwV 0 hts gX7_readWhole_X7_readShift rfl rfl rfl (by decide +kernel) ⟨Nat.le_of_ble_eq_true rfl, Nat.le_of_ble_eq_true rfl⟩) (q0 := 0) rfl rfl rfl hK hNW hP hD hS hA rfl hl.1 rfl (Nat.le_of_ble_eq_true rfl) dX7_readWhole_80 ⟨Nat.zero_le _, Nat.zero_le _⟩ (fun r ⟨t80, f80, s80, n80, w80, g80, fa80, zh80, r80⟩ H locs hw9 hP hD hS => ?_)
                obtain ⟨z80, hr9, hw9⟩ := hw9
                subst hr9
                have hz80 : RN tape zz (q2, i2, p2, f2, o2, l2, a2, y8, y9, r2) e2 y6 z80 t80 f80 s80 n80 w80 fa80 zh80 2 1 y8 (y9 + 1) r80 := hw9
                have zb80 : z80 = 0 ∨ z80 = 1 := hz80.elim (fun z => Or.inl z.1) (fun z => Or.inr z.1)
                have hP : va_P D vwCl (wT q C th ta fa80 sm tape now snaps w80 zz t80 f80 s80 n80 zh80 g80 y8 y9 r80 sa) H := hP
                have hD : va_D A (wT q C th ta fa80 sm tape now snaps w80 zz t80 f80 s80 n80 zh80 g80 y8 y9 r80 sa) := hD
                refine j_if_ne (tgt := 88) hx hb dX7_readWhole_83 rfl ⟨by omega, by omega⟩ (fun c83 => ?_) (fun c83 => ?_)
                · skip
                  have ok80 := (hz80.resolve_left (fun z => c83 z.1)).2
                  obtain ⟨fa9, e9, p9, f9, o9, l9, a9, ok9⟩ := ok80
                  refine lv_aload_n hx hb dX7_readWhole_88 rfl (lv_at hl 0 rfl) ?_
                  refine lv_dup hx hb dX7_readWhole_89 rfl ?_
                  refine va_get (D := D) (ci := 7) (v := .int (iI (y9))) (C := RX7) (T := TX7) (N := 23) hx hb hts (by decide +kernel) hown hK hP 0 rfl rfl 17 (by decide) (hts (.fieldLink RX7 140 "BreakSetterModel" "lines" "I") (by decide +kernel)) (fun _ h9 => h9) rfl dX7_readWhole_90 ?_
                  refine lv_iconst (v := iI (1)) hx hb dX7_readWhole_93 rfl ?_
                  refine j_iadd hx hb dX7_readWhole_94 ?_
                  refine va_put (D := D) (ci := 7) (v := .int (iI (y9 + 1))) (ty := .int) (C := RX7) (T := TX7) (N := 23) hx hb hts (by decide +kernel) tyX7 tyX7_ok nmX7 hown hK hP hD hS 0 rfl rfl 17 (by decide) (hts (.fieldLink RX7 140 "BreakSetterModel" "lines" "I") (by decide +kernel)) (fun _ h9 => h9) rfl (by decide +kernel) rfl rfl (Nat.le_of_ble_eq_true rfl) dX7_readWhole_95 (fun H locs hP hD hS => ?_)
                  have hP : va_P D vwCl (wT q C th ta fa80 sm tape now snaps w80 zz t80 f80 s80 n80 zh80 g80 y8 (y9 + 1) r80 sa) H := hP
                  have hD : va_D A (wT q C th ta fa80 sm tape now snaps w80 zz t80 f80 s80 n80 zh80 g80 y8 (y9 + 1) r80 sa) := hD
                  refine lv_goto (tgt := 59) hx hb dX7_readWhole_98 rfl ?_
                  exact ih59 t80 f80 s80 n80 w80 g80 fa80 zh80 y8 (y9 + 1) r80 2 1 e9 p9 f9 o9 l9 a9 ls H locs ok9.2.1 ok9.2.2.1 (W2.trans ok9.2.2.2) (by omega) (by omega) (fun z => by omega) (by have := ok9.1; have := ok9.2.1.1; omega) (lv_sub hl [0] rfl) hP hD hS
                · skip
                  have no80 := (hz80.resolve_right (fun z => by have := z.1; omega)).2
                  refine lv_iconst (v := iI (0)) hx hb dX7_readWhole_86 rfl ?_
                  exact hret H locs ls 87 _ (t80, f80, s80, n80, w80, g80, fa80, zh80, y8, y9, r80) dX7_readWhole_87 (Or.inl rfl) ⟨0, rfl, Or.inl ⟨rfl, W2.trans no80⟩⟩ hP hD hS
          exact L59 _ x0 x1 x2 x3 x4 x5 x6 x7 x8 x9 r1 1 0 e1 p1 f1 o1 l1 a1 ls H locs L1 M1 W1 F1 (by omega) (fun _ z => c34 ⟨z.1, by omega⟩) (Nat.lt_succ_self _) (lv_sub hl [0] rfl) hP hD hS
        · skip
          refine lv_aload_n hx hb dX7_readWhole_37 rfl (lv_at hl 0 rfl) ?_
          refine CI_callV0 (As := []) (rest := []) ⟨hx, hb, hml, hown, hts⟩ (c_X7_readNeed hb9 hz L1 M1 ⟨c34.1, by omega⟩) (cwV 0 hts gX7_readWhole_X7_readNeed rfl rfl rfl (by decide +kernel) ⟨Nat.le_of_ble_eq_true rfl, Nat.le_of_ble_eq_true rfl⟩) (q0 := 0) rfl rfl rfl hK hNW hP hD hS hA rfl hl.1 rfl (Nat.le_of_ble_eq_true rfl) dX7_readWhole_38 ⟨Nat.zero_le _, Nat.zero_le _⟩ (fun r ⟨t38, f38, s38, n38, w38, g38, fa38, zh38, zk38, r38⟩ H locs hw9 hP hD hS => ?_)
          obtain ⟨z38, hr9, hw9⟩ := hw9
          subst hr9
          have hz38 : RN tape zz (1, 0, p1, f1, o1, l1, a1, x8, x9, r1) e1 x6 z38 t38 f38 s38 n38 w38 fa38 zh38 1 0 zk38 (x9 + 1) r38 := hw9
          have zb38 : z38 = 0 ∨ z38 = 1 := hz38.elim (fun z => Or.inl z.1) (fun z => Or.inr z.1)
          have hP : va_P D vwCl (wT q C th ta fa38 sm tape now snaps w38 zz t38 f38 s38 n38 zh38 g38 zk38 x9 r38 sa) H := hP
          have hD : va_D A (wT q C th ta fa38 sm tape now snaps w38 zz t38 f38 s38 n38 zh38 g38 zk38 x9 r38 sa) := hD
          refine j_if_ne (tgt := 46) hx hb dX7_readWhole_41 rfl ⟨by omega, by omega⟩ (fun c41 => ?_) (fun c41 => ?_)
          · skip
            have ok38 := (hz38.resolve_left (fun z => c41 z.1)).2
            obtain ⟨fa8, e8, p8, f8, o8, l8, a8, ok8⟩ := ok38
            refine lv_aload_n hx hb dX7_readWhole_46 rfl (lv_at hl 0 rfl) ?_
            refine lv_dup hx hb dX7_readWhole_47 rfl ?_
            refine va_get (D := D) (ci := 7) (v := .int (iI (x9))) (C := RX7) (T := TX7) (N := 23) hx hb hts (by decide +kernel) hown hK hP 0 rfl rfl 17 (by decide) (hts (.fieldLink RX7 140 "BreakSetterModel" "lines" "I") (by decide +kernel)) (fun _ h9 => h9) rfl dX7_readWhole_48 ?_
            refine lv_iconst (v := iI (1)) hx hb dX7_readWhole_51 rfl ?_
            refine j_iadd hx hb dX7_readWhole_52 ?_
            refine va_put (D := D) (ci := 7) (v := .int (iI (x9 + 1))) (ty := .int) (C := RX7) (T := TX7) (N := 23) hx hb hts (by decide +kernel) tyX7 tyX7_ok nmX7 hown hK hP hD hS 0 rfl rfl 17 (by decide) (hts (.fieldLink RX7 140 "BreakSetterModel" "lines" "I") (by decide +kernel)) (fun _ h9 => h9) rfl (by decide +kernel) rfl rfl (Nat.le_of_ble_eq_true rfl) dX7_readWhole_53 (fun H locs hP hD hS => ?_)
            have hP : va_P D vwCl (wT q C th ta fa38 sm tape now snaps w38 zz t38 f38 s38 n38 zh38 g38 zk38 (x9 + 1) r38 sa) H := hP
            have hD : va_D A (wT q C th ta fa38 sm tape now snaps w38 zz t38 f38 s38 n38 zh38 g38 zk38 (x9 + 1) r38 sa) := hD
            refine lv_goto (tgt := 19) hx hb dX7_readWhole_56 rfl ?_
            exact ih19 t38 f38 s38 n38 w38 g38 fa38 zh38 zk38 (x9 + 1) r38 e8 p8 f8 o8 l8 a8 ls H locs ok8.2.1 ok8.2.2.1 (W1.trans ok8.2.2.2) (by omega) (by have := ok8.1; have := ok8.2.1.1; omega) (lv_sub hl [0] rfl) hP hD hS
          · skip
            have no38 := (hz38.resolve_right (fun z => by have := z.1; omega)).2
            refine lv_iconst (v := iI (0)) hx hb dX7_readWhole_44 rfl ?_
            exact hret H locs ls 45 _ (t38, f38, s38, n38, w38, g38, fa38, zh38, zk38, x9, r38) dX7_readWhole_45 (Or.inl rfl) ⟨0, rfl, Or.inl ⟨rfl, W1.trans no38⟩⟩ hP hD hS
    exact L19 _ t1 f1 s1 n1 w1 g1 fa1 zh1 zk (zl + 1) r1 e7 p7 f7 o7 l7 a7 ls H locs ok7.2.1 ok7.2.2.1 ok7.2.2.2 fa7 (Nat.lt_succ_self _) (lv_sub hl [0] rfl) hP hD hS
  · skip
    have no1 := (hz1.resolve_right (fun z => by have := z.1; omega)).2
    refine lv_iconst (v := iI (0)) hx hb dX7_readWhole_7 rfl ?_
    exact hret H locs ls 8 _ (t1, f1, s1, n1, w1, g1, fa1, zh1, zk, zl, r1) dX7_readWhole_8 (Or.inl rfl) ⟨0, rfl, Or.inl ⟨rfl, no1⟩⟩ hP hD hS

set_option maxHeartbeats 4000000 in
set_option maxRecDepth 100000 in
theorem c_X7_text {l : Launch} {D : va_G} {C : Nat → ClassId} {q : Nat → Nat} {th ta fa sm : Int} {tape now snaps : Int → Int} {wz zz zt zf zs zn zh zg zk zl : Int} {rd : Int → Int} {sa : Nat → Int → Int} {z3 : Int} (hb9 : ∀ k : Int, 0 ≤ k → k < 640 → 0 ≤ tape k ∧ tape k < 256) (hz : 0 ≤ zz ∧ zz ≤ 640) {spo sfr sto sln sea : Int}  : CI (S := Int × Int × (Int → Int) × Int × Int × Int × Int × Int × Int × Int × Int × Int × (Int → Int)) l yX7_text wsX7_text 7 153 D C [.ref (q 36)] (wT q C th zz fa sm tape now snaps wz z3 zt zf zs zn zh zg zk zl rd sa) (fun u => wT q C 0 0 (u.1) (u.2.1) tape (u.2.2.1) snaps (u.2.2.2.1) zz (u.2.2.2.2.1) (u.2.2.2.2.2.1) (u.2.2.2.2.2.2.1) (u.2.2.2.2.2.2.2.1) (u.2.2.2.2.2.2.2.2.1) (u.2.2.2.2.2.2.2.2.2.1) (u.2.2.2.2.2.2.2.2.2.2.1) (u.2.2.2.2.2.2.2.2.2.2.2.1) (u.2.2.2.2.2.2.2.2.2.2.2.2) sa) (fun r u => (∃ k w : Int, runT tape zz (0, 0, spo, sfr, sto, sln, sea, 0, 0, (flf rd 0 308)) 0 = .inl (k, w) ∧ r = iI (-1 - w) ∧ u.1 = k ∧ u.2.1 = sm ∧ u.2.2.1 = now) ∨ (∃ (li : Int) (g : Int → Int), runT tape zz (0, 0, spo, sfr, sto, sln, sea, 0, 0, (flf rd 0 308)) 0 = .inr (li, g) ∧ r = iI li ∧ u.1 = 0 ∧ u.2.1 = 0 ∧ u.2.2.1 = cp0 now g 308 ∧ Wf g)) := by
  refine CI_of (cc := cX7_text) (maxL := 2) (by decide) rfl (Nat.le_of_ble_eq_true rfl) ?_
  intro p e s m below meth c A Q ls hx hb hml hown hts hK hNW hA hl hP hD hS hret
  have hl : lv_has ls 2 [(0, .ref (q 36))] := hl
  refine lv_aload_n hx hb dX7_text_0 rfl (lv_at hl 0 rfl) ?_
  refine lv_iconst (v := iI (0)) hx hb dX7_text_1 rfl ?_
  refine va_put (D := D) (ci := 7) (v := .int (iI (0))) (ty := .int) (C := RX7) (T := TX7) (N := 23) hx hb hts (by decide +kernel) tyX7 tyX7_ok nmX7 hown hK hP hD hS 0 rfl rfl 0 (by decide) (hts (.fieldLink RX7 1 "BreakSetterModel" "thrown" "I") (by decide +kernel)) (fun _ h9 => h9) rfl (by decide +kernel) rfl rfl (Nat.le_of_ble_eq_true rfl) dX7_text_2 (fun H locs hP hD hS => ?_)
  have hP : va_P D vwCl (wT q C 0 zz fa sm tape now snaps wz z3 zt zf zs zn zh zg zk zl rd sa) H := hP
  have hD : va_D A (wT q C 0 zz fa sm tape now snaps wz z3 zt zf zs zn zh zg zk zl rd sa) := hD
  refine lv_aload_n hx hb dX7_text_5 rfl (lv_at hl 0 rfl) ?_
  refine lv_aload_n hx hb dX7_text_6 rfl (lv_at hl 0 rfl) ?_
  refine va_get (D := D) (ci := 7) (v := .int (iI (zz))) (C := RX7) (T := TX7) (N := 23) hx hb hts (by decide +kernel) hown hK hP 0 rfl rfl 2 (by decide) (hts (.fieldLink RX7 11 "BreakSetterModel" "taped" "I") (by decide +kernel)) (fun _ h9 => h9) rfl dX7_text_7 ?_
  refine va_put (D := D) (ci := 7) (v := .int (iI (zz))) (ty := .int) (C := RX7) (T := TX7) (N := 23) hx hb hts (by decide +kernel) tyX7 tyX7_ok nmX7 hown hK hP hD hS 0 rfl rfl 3 (by decide) (hts (.fieldLink RX7 18 "BreakSetterModel" "size" "I") (by decide +kernel)) (fun _ h9 => h9) rfl (by decide +kernel) rfl rfl (Nat.le_of_ble_eq_true rfl) dX7_text_10 (fun H locs hP hD hS => ?_)
  have hP : va_P D vwCl (wT q C 0 zz fa sm tape now snaps wz zz zt zf zs zn zh zg zk zl rd sa) H := hP
  have hD : va_D A (wT q C 0 zz fa sm tape now snaps wz zz zt zf zs zn zh zg zk zl rd sa) := hD
  refine lv_aload_n hx hb dX7_text_13 rfl (lv_at hl 0 rfl) ?_
  refine lv_iconst (v := iI (0)) hx hb dX7_text_14 rfl ?_
  refine va_put (D := D) (ci := 7) (v := .int (iI (0))) (ty := .int) (C := RX7) (T := TX7) (N := 23) hx hb hts (by decide +kernel) tyX7 tyX7_ok nmX7 hown hK hP hD hS 0 rfl rfl 2 (by decide) (hts (.fieldLink RX7 11 "BreakSetterModel" "taped" "I") (by decide +kernel)) (fun _ h9 => h9) rfl (by decide +kernel) rfl rfl (Nat.le_of_ble_eq_true rfl) dX7_text_15 (fun H locs hP hD hS => ?_)
  have hP : va_P D vwCl (wT q C 0 0 fa sm tape now snaps wz zz zt zf zs zn zh zg zk zl rd sa) H := hP
  have hD : va_D A (wT q C 0 0 fa sm tape now snaps wz zz zt zf zs zn zh zg zk zl rd sa) := hD
  refine lv_aload_n hx hb dX7_text_18 rfl (lv_at hl 0 rfl) ?_
  refine lv_iconst (v := iI (0)) hx hb dX7_text_19 rfl ?_
  refine va_put (D := D) (ci := 7) (v := .int (iI (0))) (ty := .int) (C := RX7) (T := TX7) (N := 23) hx hb hts (by decide +kernel) tyX7 tyX7_ok nmX7 hown hK hP hD hS 0 rfl rfl 8 (by decide) (hts (.fieldLink RX7 62 "BreakSetterModel" "fault" "I") (by decide +kernel)) (fun _ h9 => h9) rfl (by decide +kernel) rfl rfl (Nat.le_of_ble_eq_true rfl) dX7_text_20 (fun H locs hP hD hS => ?_)
  have hP : va_P D vwCl (wT q C 0 0 0 sm tape now snaps wz zz zt zf zs zn zh zg zk zl rd sa) H := hP
  have hD : va_D A (wT q C 0 0 0 sm tape now snaps wz zz zt zf zs zn zh zg zk zl rd sa) := hD
  refine lv_aload_n hx hb dX7_text_23 rfl (lv_at hl 0 rfl) ?_
  refine lv_iconst (v := iI (0)) hx hb dX7_text_24 rfl ?_
  refine va_put (D := D) (ci := 7) (v := .int (iI (0))) (ty := .int) (C := RX7) (T := TX7) (N := 23) hx hb hts (by decide +kernel) tyX7 tyX7_ok nmX7 hown hK hP hD hS 0 rfl rfl 4 (by decide) (hts (.fieldLink RX7 21 "BreakSetterModel" "to" "I") (by decide +kernel)) (fun _ h9 => h9) rfl (by decide +kernel) rfl rfl (Nat.le_of_ble_eq_true rfl) dX7_text_25 (fun H locs hP hD hS => ?_)
  have hP : va_P D vwCl (wT q C 0 0 0 sm tape now snaps wz zz 0 zf zs zn zh zg zk zl rd sa) H := hP
  have hD : va_D A (wT q C 0 0 0 sm tape now snaps wz zz 0 zf zs zn zh zg zk zl rd sa) := hD
  refine lv_aload_n hx hb dX7_text_28 rfl (lv_at hl 0 rfl) ?_
  refine lv_iconst (v := iI (0)) hx hb dX7_text_29 rfl ?_
  refine va_put (D := D) (ci := 7) (v := .int (iI (0))) (ty := .int) (C := RX7) (T := TX7) (N := 23) hx hb hts (by decide +kernel) tyX7 tyX7_ok nmX7 hown hK hP hD hS 0 rfl rfl 16 (by decide) (hts (.fieldLink RX7 131 "BreakSetterModel" "needs" "I") (by decide +kernel)) (fun _ h9 => h9) rfl (by decide +kernel) rfl rfl (Nat.le_of_ble_eq_true rfl) dX7_text_30 (fun H locs hP hD hS => ?_)
  have hP : va_P D vwCl (wT q C 0 0 0 sm tape now snaps wz zz 0 zf zs zn zh zg 0 zl rd sa) H := hP
  have hD : va_D A (wT q C 0 0 0 sm tape now snaps wz zz 0 zf zs zn zh zg 0 zl rd sa) := hD
  refine lv_aload_n hx hb dX7_text_33 rfl (lv_at hl 0 rfl) ?_
  refine lv_iconst (v := iI (0)) hx hb dX7_text_34 rfl ?_
  refine va_put (D := D) (ci := 7) (v := .int (iI (0))) (ty := .int) (C := RX7) (T := TX7) (N := 23) hx hb hts (by decide +kernel) tyX7 tyX7_ok nmX7 hown hK hP hD hS 0 rfl rfl 17 (by decide) (hts (.fieldLink RX7 140 "BreakSetterModel" "lines" "I") (by decide +kernel)) (fun _ h9 => h9) rfl (by decide +kernel) rfl rfl (Nat.le_of_ble_eq_true rfl) dX7_text_35 (fun H locs hP hD hS => ?_)
  have hP : va_P D vwCl (wT q C 0 0 0 sm tape now snaps wz zz 0 zf zs zn zh zg 0 0 rd sa) H := hP
  have hD : va_D A (wT q C 0 0 0 sm tape now snaps wz zz 0 zf zs zn zh zg 0 0 rd sa) := hD
  refine lv_iconst (v := iI (0)) hx hb dX7_text_38 rfl ?_
  refine lv_istore_n (lv' := [(1, .int (iI (0))), (0, .ref (q 36))]) hx hb dX7_text_39 rfl hl (by decide) rfl (fun ls hl => ?_)
  have L40 : ∀ (n : Nat) (i : Int) (r1 : Int → Int) (ls : Array Slot) (H : Heap) (locs : List Loc), (0 ≤ i ∧ i ≤ 308) → (r1 = flf rd 0 i) → ((308 - i).toNat < n) → (lv_has ls 2 [(1, .int (iI (i))), (0, .ref (q 36))]) → (va_P D vwCl (wT q C 0 0 0 sm tape now snaps wz zz 0 zf zs zn zh zg 0 0 r1 sa) H) → (va_D A (wT q C 0 0 0 sm tape now snaps wz zz 0 zf zs zn zh zg 0 0 r1 sa)) → (va_S A s.heap H locs) → W p l e (rmN 7 153) s m ([.ref (q 36)] : List Value).toArray below meth c H locs 0 0 Q (F0 m 40 ls []) := by
    intro n
    induction n with
    | zero => intro i r1 ls H locs i1 h2 hn; exact absurd hn (Nat.not_lt_zero _)
    | succ n ih40 =>
      intro i r1 ls H locs i1 h2 hn hl hP hD hS
      have hn40 := hn
      refine lv_iload_n hx hb dX7_text_40 rfl (lv_at hl 0 rfl) ?_
      refine lv_sipush (v := iI (308)) hx hb dX7_text_41 (by decide) ?_
      refine j_icmp_ge (tgt := 60) hx hb dX7_text_44 rfl ⟨by omega, by omega⟩ ⟨by decide, by decide⟩ (fun c44 => ?_) (fun c44 => ?_)
      · skip
        obtain rfl : i = 308 := by omega
        subst h2
        have hl := lv_sub hl [1] rfl
        have hP : va_P D vwCl (wT q C 0 0 0 sm tape now snaps wz zz 0 zf zs zn zh zg 0 0 (flf rd 0 308) sa) H := hP
        have hD : va_D A (wT q C 0 0 0 sm tape now snaps wz zz 0 zf zs zn zh zg 0 0 (flf rd 0 308) sa) := hD
        refine lv_aload_n hx hb dX7_text_60 rfl (lv_at hl 0 rfl) ?_
        refine CV_callV0 (As := []) (rest := []) ⟨hx, hb, hml, hown, hts⟩ (c_X7_go hb9 hz ⟨by omega, by omega⟩) (cwV 0 hts gX7_text_X7_go rfl rfl rfl (by decide +kernel) ⟨Nat.le_of_ble_eq_true rfl, Nat.le_of_ble_eq_true rfl⟩) (q0 := 0) rfl rfl rfl hK hNW hP hD hS hA rfl hl.1 rfl (Nat.le_of_ble_eq_true rfl) dX7_text_61 ⟨Nat.zero_le _, Nat.zero_le _⟩ (fun ⟨t61, f61, s61, n61, w61⟩ H locs hw9 hP hD hS => ?_)
        have hP : va_P D vwCl (wT q C 0 0 0 sm tape now snaps w61 zz t61 f61 s61 n61 zh zg 0 0 (flf rd 0 308) sa) H := hP
        have hD : va_D A (wT q C 0 0 0 sm tape now snaps w61 zz t61 f61 s61 n61 zh zg 0 0 (flf rd 0 308) sa) := hD
        have hLA61 : LA tape zz 0 t61 f61 s61 n61 w61 := hw9
        have hq61 := LA_zs hLA61
        refine lv_aload_n hx hb dX7_text_64 rfl (lv_at hl 0 rfl) ?_
        refine CI_callV0 (As := []) (rest := []) ⟨hx, hb, hml, hown, hts⟩ (c_X7_readWhole hb9 hz hLA61 (MI_start (po := spo) (fr := sfr) (to := sto) (ln := sln) (ea := sea) (flf_z rd))) (cwV 0 hts gX7_text_X7_readWhole rfl rfl rfl (by decide +kernel) ⟨Nat.le_of_ble_eq_true rfl, Nat.le_of_ble_eq_true rfl⟩) (q0 := 0) rfl rfl rfl hK hNW hP hD hS hA rfl hl.1 rfl (Nat.le_of_ble_eq_true rfl) dX7_text_65 ⟨Nat.zero_le _, Nat.zero_le _⟩ (fun r ⟨t65, f65, s65, n65, w65, g65, fa65, zh65, zk65, zl65, r65⟩ H locs hw9 hP hD hS => ?_)
        obtain ⟨z65, hr9, hw9⟩ := hw9
        subst hr9
        have hz65 : (z65 = 0 ∧ runT tape zz (0, 0, spo, sfr, sto, sln, sea, 0, 0, (flf rd 0 308)) 0 = .inl (fa65, zh65)) ∨ (z65 = 1 ∧ fa65 = 0 ∧ runT tape zz (0, 0, spo, sfr, sto, sln, sea, 0, 0, (flf rd 0 308)) 0 = .inr (zl65, r65) ∧ Wf r65) := hw9
        have zb65 : z65 = 0 ∨ z65 = 1 := hz65.elim (fun z => Or.inl z.1) (fun z => Or.inr z.1)
        have hP : va_P D vwCl (wT q C 0 0 fa65 sm tape now snaps w65 zz t65 f65 s65 n65 zh65 g65 zk65 zl65 r65 sa) H := hP
        have hD : va_D A (wT q C 0 0 fa65 sm tape now snaps w65 zz t65 f65 s65 n65 zh65 g65 zk65 zl65 r65 sa) := hD
        refine j_if_ne (tgt := 78) hx hb dX7_text_68 rfl ⟨by omega, by omega⟩ (fun c68 => ?_) (fun c68 => ?_)
        · skip
          have ok65 := (hz65.resolve_left (fun z => c68 z.1)).2
          refine lv_iconst (v := iI (0)) hx hb dX7_text_78 rfl ?_
          refine lv_istore_n (lv' := [(1, .int (iI (0))), (0, .ref (q 36))]) hx hb dX7_text_79 rfl hl (by decide) rfl (fun ls hl => ?_)
          have L80 : ∀ (n : Nat) (j : Int) (ls : Array Slot) (H : Heap) (locs : List Loc), (0 ≤ j ∧ j ≤ 308) → ((308 - j).toNat < n) → (lv_has ls 2 [(1, .int (iI (j))), (0, .ref (q 36))]) → (va_P D vwCl (wT q C 0 0 fa65 sm tape (cp0 now r65 j) snaps w65 zz t65 f65 s65 n65 zh65 g65 zk65 zl65 r65 sa) H) → (va_D A (wT q C 0 0 fa65 sm tape (cp0 now r65 j) snaps w65 zz t65 f65 s65 n65 zh65 g65 zk65 zl65 r65 sa)) → (va_S A s.heap H locs) → W p l e (rmN 7 153) s m ([.ref (q 36)] : List Value).toArray below meth c H locs 0 0 Q (F0 m 80 ls []) := by
            intro n
            induction n with
            | zero => intro j ls H locs j1 hn; exact absurd hn (Nat.not_lt_zero _)
            | succ n ih80 =>
              intro j ls H locs j1 hn hl hP hD hS
              have hn80 := hn
              refine lv_iload_n hx hb dX7_text_80 rfl (lv_at hl 0 rfl) ?_
              refine lv_sipush (v := iI (308)) hx hb dX7_text_81 (by decide) ?_
              refine j_icmp_ge (tgt := 105) hx hb dX7_text_84 rfl ⟨by omega, by omega⟩ ⟨by decide, by decide⟩ (fun c84 => ?_) (fun c84 => ?_)
              · skip
                obtain rfl : j = 308 := by omega
                have hl := lv_sub hl [1] rfl
                have hP : va_P D vwCl (wT q C 0 0 fa65 sm tape (cp0 now r65 308) snaps w65 zz t65 f65 s65 n65 zh65 g65 zk65 zl65 r65 sa) H := hP
                have hD : va_D A (wT q C 0 0 fa65 sm tape (cp0 now r65 308) snaps w65 zz t65 f65 s65 n65 zh65 g65 zk65 zl65 r65 sa) := hD
                refine lv_aload_n hx hb dX7_text_105 rfl (lv_at hl 0 rfl) ?_
                refine lv_iconst (v := iI (0)) hx hb dX7_text_106 rfl ?_
                refine va_put (D := D) (ci := 7) (v := .int (iI (0))) (ty := .int) (C := RX7) (T := TX7) (N := 23) hx hb hts (by decide +kernel) tyX7 tyX7_ok nmX7 hown hK hP hD hS 0 rfl rfl 14 (by decide) (hts (.fieldLink RX7 152 "BreakSetterModel" "snapMany" "I") (by decide +kernel)) (fun _ h9 => h9) rfl (by decide +kernel) rfl rfl (Nat.le_of_ble_eq_true rfl) dX7_text_107 (fun H locs hP hD hS => ?_)
                have hP : va_P D vwCl (wT q C 0 0 fa65 0 tape (cp0 now r65 308) snaps w65 zz t65 f65 s65 n65 zh65 g65 zk65 zl65 r65 sa) H := hP
                have hD : va_D A (wT q C 0 0 fa65 0 tape (cp0 now r65 308) snaps w65 zz t65 f65 s65 n65 zh65 g65 zk65 zl65 r65 sa) := hD
                refine lv_aload_n hx hb dX7_text_110 rfl (lv_at hl 0 rfl) ?_
                refine va_get (D := D) (ci := 7) (v := .int (iI (zl65))) (C := RX7) (T := TX7) (N := 23) hx hb hts (by decide +kernel) hown hK hP 0 rfl rfl 17 (by decide) (hts (.fieldLink RX7 140 "BreakSetterModel" "lines" "I") (by decide +kernel)) (fun _ h9 => h9) rfl dX7_text_111 ?_
                exact hret H locs ls 114 _ (fa65, 0, cp0 now r65 308, w65, t65, f65, s65, n65, zh65, g65, zk65, zl65, r65) dX7_text_114 (Or.inr ⟨_, _, ok65.2.1, rfl, ok65.1, rfl, rfl, ok65.2.2⟩) hP hD hS
              · skip
                refine lv_aload_n hx hb dX7_text_87 rfl (lv_at hl 1 rfl) ?_
                refine va_get (D := D) (ci := 7) (v := .ref (q 38)) (C := RX7) (T := TX7) (N := 23) hx hb hts (by decide +kernel) hown hK hP 0 rfl rfl 11 (by decide) (hts (.fieldLink RX7 74 "BreakSetterModel" "now" "[I") (by decide +kernel)) (fun _ h9 => h9) rfl dX7_text_88 ?_
                refine lv_iload_n hx hb dX7_text_91 rfl (lv_at hl 0 rfl) ?_
                refine lv_aload_n hx hb dX7_text_92 rfl (lv_at hl 1 rfl) ?_
                refine va_get (D := D) (ci := 7) (v := .ref (q 39)) (C := RX7) (T := TX7) (N := 23) hx hb hts (by decide +kernel) hown hK hP 0 rfl rfl 12 (by decide) (hts (.fieldLink RX7 77 "BreakSetterModel" "read" "[I") (by decide +kernel)) (fun _ h9 => h9) rfl dX7_text_93 ?_
                refine lv_iload_n hx hb dX7_text_96 rfl (lv_at hl 0 rfl) ?_
                refine j_iald hx hb hK hP 3 1 rfl rfl ⟨by omega, by omega⟩ (Nat.le_of_ble_eq_true rfl) dX7_text_97 ?_
                refine j_iast hx hb hK hP hD hS 2 1 rfl rfl ⟨by omega, by omega⟩ (Nat.le_of_ble_eq_true rfl) dX7_text_98 (fun H locs hP hD hS => ?_)
                have hP : va_P D vwCl (wT q C 0 0 fa65 sm tape (up (cp0 now r65 j) j (r65 j)) snaps w65 zz t65 f65 s65 n65 zh65 g65 zk65 zl65 r65 sa) H := hP
                have hD : va_D A (wT q C 0 0 fa65 sm tape (up (cp0 now r65 j) j (r65 j)) snaps w65 zz t65 f65 s65 n65 zh65 g65 zk65 zl65 r65 sa) := hD
                refine j_iinc (k := 0) (lv' := [(1, .int (iI (j + 1))), (0, .ref (q 36))]) hx hb dX7_text_99 hl rfl (by decide) rfl (fun ls hl => ?_)
                refine lv_goto (tgt := 80) hx hb dX7_text_102 rfl ?_
                rw [cp0_s j1.1] at hP hD
                exact ih80 (j + 1) ls H locs (by omega) (by omega) (lv_sub hl [0, 1] rfl) hP hD hS
          rw [← cp0_0 now r65] at hP hD
          exact L80 _ 0 ls H locs (by omega) (Nat.lt_succ_self _) (lv_sub hl [0, 1] rfl) hP hD hS
        · skip
          have no65 := (hz65.resolve_right (fun z => by have := z.1; omega)).2
          refine lv_iconst (v := iI (-1)) hx hb dX7_text_71 rfl ?_
          refine lv_aload_n hx hb dX7_text_72 rfl (lv_at hl 0 rfl) ?_
          refine va_get (D := D) (ci := 7) (v := .int (iI (zh65))) (C := RX7) (T := TX7) (N := 23) hx hb hts (by decide +kernel) hown hK hP 0 rfl rfl 9 (by decide) (hts (.fieldLink RX7 65 "BreakSetterModel" "where" "I") (by decide +kernel)) (fun _ h9 => h9) rfl dX7_text_73 ?_
          refine j_isub hx hb dX7_text_76 ?_
          exact hret H locs ls 77 _ (fa65, sm, now, w65, t65, f65, s65, n65, zh65, g65, zk65, zl65, r65) dX7_text_77 (Or.inl ⟨_, _, no65, rfl, rfl, rfl, rfl⟩) hP hD hS
      · skip
        refine lv_aload_n hx hb dX7_text_47 rfl (lv_at hl 1 rfl) ?_
        refine va_get (D := D) (ci := 7) (v := .ref (q 39)) (C := RX7) (T := TX7) (N := 23) hx hb hts (by decide +kernel) hown hK hP 0 rfl rfl 12 (by decide) (hts (.fieldLink RX7 77 "BreakSetterModel" "read" "[I") (by decide +kernel)) (fun _ h9 => h9) rfl dX7_text_48 ?_
        refine lv_iload_n hx hb dX7_text_51 rfl (lv_at hl 0 rfl) ?_
        refine lv_iconst (v := iI (0)) hx hb dX7_text_52 rfl ?_
        refine j_iast hx hb hK hP hD hS 3 1 rfl rfl ⟨by omega, by omega⟩ (Nat.le_of_ble_eq_true rfl) dX7_text_53 (fun H locs hP hD hS => ?_)
        have hP : va_P D vwCl (wT q C 0 0 0 sm tape now snaps wz zz 0 zf zs zn zh zg 0 0 (up r1 i 0) sa) H := hP
        have hD : va_D A (wT q C 0 0 0 sm tape now snaps wz zz 0 zf zs zn zh zg 0 0 (up r1 i 0) sa) := hD
        refine j_iinc (k := 0) (lv' := [(1, .int (iI (i + 1))), (0, .ref (q 36))]) hx hb dX7_text_54 hl rfl (by decide) rfl (fun ls hl => ?_)
        refine lv_goto (tgt := 40) hx hb dX7_text_57 rfl ?_
        exact ih40 (i + 1) (up r1 i 0) ls H locs (by omega) (by rw [h2]; exact flf_s i1.1) (by omega) (lv_sub hl [0, 1] rfl) hP hD hS
  exact L40 _ 0 rd ls H locs (by omega) (flf_0 _ _).symm (Nat.lt_succ_self _) (lv_sub hl [0, 1] rfl) hP hD hS
