/-- the reference's world while it reads -/
def wT (q : Nat → Nat) (C : Nat → ClassId) (th ta fa sm : Int) (tape now snaps : Int → Int) (wz zz zt zf zs zn zh zg zk zl : Int) (rd : Int → Int) (sa : Nat → Int → Int) : va_W := [(q 36, .inr (7, [.int (iI th), .ref (q 37), .int (iI ta), .int (iI zz), .int (iI zt), .int (iI zf), .int (iI zs), .int (iI zn), .int (iI fa), .int (iI zh), .long (lI wz), .ref (q 38), .ref (q 39), .ref (q 40), .int (iI sm), .int (iI zg), .int (iI zk), .int (iI zl), .ref (q 41), .ref (q 42), .ref (q 43), .ref (q 44), .ref (q 45)])), (q 37, .inl (C 1, 640, .inl (aI tape))), (q 38, .inl (C 1, 308, .inl (aI now))), (q 39, .inl (C 1, 308, .inl (aI rd))), (q 40, .inl (C 1, 3080, .inl (aI snaps))), (q 41, .inl (C 1, 48, .inl (aI (sa 1)))), (q 42, .inl (C 1, 48, .inl (aI (sa 2)))), (q 43, .inl (C 1, 8, .inl (aI (sa 3)))), (q 44, .inl (C 2, 48, .inl (aI (sa 4)))), (q 45, .inl (C 1, 147, .inl (aI (sa 5))))]
theorem wM_wT (q : Nat → Nat) (C : Nat → ClassId) (th ta fa sm : Int) (tape now snaps : Int → Int) (wo : Int64) (sc : Nat → Int) (sa : Nat → Int → Int) : wM q C th ta fa sm tape now snaps wo sc sa = wT q C th ta fa sm tape now snaps wo.toInt (sc 3) (sc 4) (sc 5) (sc 6) (sc 7) (sc 9) (sc 15) (sc 16) (sc 17) (sa 0) sa := by
  unfold wM wT
  rw [lI_of]
def scT (zz zt zf zs zn zh zg zk zl : Int) : Nat → Int := fun k => if k = 3 then zz else if k = 4 then zt else if k = 5 then zf else if k = 6 then zs else if k = 7 then zn else if k = 9 then zh else if k = 15 then zg else if k = 16 then zk else zl
def saR (sa : Nat → Int → Int) (rd : Int → Int) : Nat → Int → Int := fun k => if k = 0 then rd else sa k
theorem wT_wM (q : Nat → Nat) (C : Nat → ClassId) (th ta fa sm : Int) (tape now snaps : Int → Int) (wz zz zt zf zs zn zh zg zk zl : Int) (rd : Int → Int) (sa : Nat → Int → Int) : wT q C th ta fa sm tape now snaps wz zz zt zf zs zn zh zg zk zl rd sa = wM q C th ta fa sm tape now snaps (lI wz) (scT zz zt zf zs zn zh zg zk zl) (saR sa rd) := rfl
theorem LA_mk {b : Int → Int} {n e i zt zs zn wz : Int} (he : 0 ≤ e ∧ e ≤ n) (hs : tkS b n e = i) (hi : i < n) (h6 : i < 600) (ht : zt = tkE b n i) (hk : TK b n i zs zn wz) : LA b n e zt i zs zn wz := ⟨he, Or.inr ⟨by rw [hs]; omega, hs.symm, by rw [hs]; exact ht, by rw [hs]; exact hk⟩⟩
theorem nm_ok {b : Int → Int} {n i k nv : Int} (fe : k = tkE b n i) (hi : i < k) (h2 : k - i ≤ 2) (d : (∀ j : Int, i ≤ j → j < tkE b n i → isDi (b j)) ∧ (tkE b n i - i ≤ 2 → tkK b n i = 2) ∧ (¬ tkE b n i - i ≤ 2 → tkK b n i = 0)) (hn : nv = nmb b i (min k (i + 2))) : tkK b n i = 2 ∧ (3 : Int) = 3 ∧ nv = nmb b i (tkE b n i) ∧ 0 ≤ nv ∧ nv ≤ 99 := by
  have e : nv = nmb b i (tkE b n i) := by rw [hn, show min k (i + 2) = k by omega, fe]
  refine ⟨d.2.1 (by omega), rfl, e, ?_⟩
  rw [e]
  exact nmb_rng (by omega) (by omega) d.1
theorem LA_nums {b : Int → Int} {n e zt zf zs zn wz : Int} {σ : PS} (h : LA b n e zt zf zs zn wz) (h5 : 5 ≤ σ.1) : (¬ zs = 3 → runT b n σ e = .inl (1, zf)) ∧ (zs = 3 → (zn < loS σ ∨ hiS σ < zn) → runT b n σ e = .inl (2, zf)) ∧ (zs = 3 → ¬ (zn < loS σ ∨ hiS σ < zn) → runT b n σ e = runT b n (kpS zn σ) zt) := by
  obtain ⟨q, ins, po, fr, to, ln, ea, nds, li, g⟩ := σ
  exact LA_num h h5
/-- a number was wanted: what came of it -/
def TP (b : Int → Int) (n : Int) (σ : PS) (e zt zn aa bb fa z t' f' s' n' w' g' fa' zh' : Int) : Prop := (z = 0 ∧ runT b n σ e = .inl (fa', zh')) ∨ (z = 1 ∧ g' = zn ∧ aa ≤ zn ∧ zn ≤ bb ∧ fa' = fa ∧ LA b n zt t' f' s' n' w' ∧ e < zt ∧ runT b n σ e = runT b n (kpS zn σ) zt)
def EP (b : Int → Int) (n : Int) (σ : PS) (e zt fa z t' f' s' n' w' fa' zh' : Int) (τ : PS) : Prop := (z = 0 ∧ runT b n σ e = .inl (fa', zh')) ∨ (z = 1 ∧ fa' = fa ∧ LA b n zt t' f' s' n' w' ∧ e < zt ∧ runT b n σ e = runT b n τ zt)
set_option maxHeartbeats 4000000 in
set_option maxRecDepth 100000 in
theorem c_X7_tapeAt {l : Launch} {D : va_G} {C : Nat → ClassId} {q : Nat → Nat} {th ta fa sm : Int} {tape now snaps : Int → Int} {wz zz zt zf zs zn zh zg zk zl : Int} {rd : Int → Int} {sa : Nat → Int → Int} (hz : 0 ≤ zz ∧ zz ≤ 640) {kk : Int} (hk : 0 ≤ kk ∧ kk ≤ 640) : CR l yX7_tapeAt wsX7_tapeAt 0 0 D C [.ref (q 36), .int (iI (kk))] (wT q C th ta fa sm tape now snaps wz zz zt zf zs zn zh zg zk zl rd sa) (.int (iI (tA zz tape kk))) := by
  refine CR_of (cc := cX7_tapeAt) (maxL := 2) (by decide) rfl (Nat.le_of_ble_eq_true rfl) ?_
  intro p e s m below meth c Q ls hx hb hml hown hts hK hNW hl hP hret
  have hl : lv_has ls 2 [(0, .ref (q 36)), (1, .int (iI (kk)))] := hl
  refine lv_iload_n hx hb dX7_tapeAt_0 rfl (lv_at hl 1 rfl) ?_
  refine lv_aload_n hx hb dX7_tapeAt_1 rfl (lv_at hl 0 rfl) ?_
  refine va_get (D := D) (ci := 7) (v := .int (iI (zz))) (C := RX7) (T := TX7) (N := 23) hx hb hts (by decide +kernel) hown hK hP 0 rfl rfl 3 (by decide) (hts (.fieldLink RX7 18 "BreakSetterModel" "size" "I") (by decide +kernel)) (fun _ h9 => h9) rfl dX7_tapeAt_2 ?_
  refine j_icmp_ge (tgt := 17) hx hb dX7_tapeAt_5 rfl ⟨by omega, by omega⟩ ⟨by omega, by omega⟩ (fun c5 => ?_) (fun c5 => ?_)
  · skip
    refine lv_iconst (v := iI (0)) hx hb dX7_tapeAt_17 rfl ?_
    exact hret ls 18 _ dX7_tapeAt_18 (by rw [tA_f (by omega)])
  · skip
    refine lv_aload_n hx hb dX7_tapeAt_8 rfl (lv_at hl 0 rfl) ?_
    refine va_get (D := D) (ci := 7) (v := .ref (q 37)) (C := RX7) (T := TX7) (N := 23) hx hb hts (by decide +kernel) hown hK hP 0 rfl rfl 1 (by decide) (hts (.fieldLink RX7 7 "BreakSetterModel" "tape" "[I") (by decide +kernel)) (fun _ h9 => h9) rfl dX7_tapeAt_9 ?_
    refine lv_iload_n hx hb dX7_tapeAt_12 rfl (lv_at hl 1 rfl) ?_
    refine j_iald hx hb hK hP 1 1 rfl rfl ⟨by omega, by omega⟩ (Nat.le_of_ble_eq_true rfl) dX7_tapeAt_13 ?_
    refine lv_goto (tgt := 18) hx hb dX7_tapeAt_14 rfl ?_
    exact hret ls 18 _ dX7_tapeAt_18 (by rw [tA_t (by omega)])

set_option maxHeartbeats 4000000 in
set_option maxRecDepth 100000 in
theorem c_X7_go {l : Launch} {D : va_G} {C : Nat → ClassId} {q : Nat → Nat} {th ta fa sm : Int} {tape now snaps : Int → Int} {wz zz zt zf zs zn zh zg zk zl : Int} {rd : Int → Int} {sa : Nat → Int → Int} (hb9 : ∀ k : Int, 0 ≤ k → k < 640 → 0 ≤ tape k ∧ tape k < 256) (hz : 0 ≤ zz ∧ zz ≤ 640) (he : 0 ≤ zt ∧ zt ≤ zz) : CV (S := Int × Int × Int × Int × Int) l yX7_go wsX7_go 1 21 D C [.ref (q 36)] (wT q C th ta fa sm tape now snaps wz zz zt zf zs zn zh zg zk zl rd sa) (fun u => wT q C th ta fa sm tape now snaps (u.2.2.2.2) zz (u.1) (u.2.1) (u.2.2.1) (u.2.2.2.1) zh zg zk zl rd sa) (fun u => LA tape zz zt u.1 u.2.1 u.2.2.1 u.2.2.2.1 u.2.2.2.2) := by
  refine CV_of (cc := cX7_go) (maxL := 5) (by decide) rfl (Nat.le_of_ble_eq_true rfl) ?_
  intro p e s m below meth c A Q ls hx hb hml hown hts hK hNW hA hl hP hD hS hret
  have hl : lv_has ls 5 [(0, .ref (q 36))] := hl
  have L0 : ∀ (n : Nat) (i : Int) (ls : Array Slot) (H : Heap) (locs : List Loc), (zt ≤ i ∧ i ≤ zz) → (skp isBl tape zz i = skp isBl tape zz zt) → ((zz - i).toNat < n) → (lv_has ls 5 [(0, .ref (q 36))]) → (va_P D vwCl (wT q C th ta fa sm tape now snaps wz zz i zf zs zn zh zg zk zl rd sa) H) → (va_D A (wT q C th ta fa sm tape now snaps wz zz i zf zs zn zh zg zk zl rd sa)) → (va_S A s.heap H locs) → W p l e (rmN 1 21) s m ([.ref (q 36)] : List Value).toArray below meth c H locs 0 0 Q (F0 m 0 ls []) := by
    intro n
    induction n with
    | zero => intro i ls H locs i1 i2 hn; exact absurd hn (Nat.not_lt_zero _)
    | succ n ih0 =>
      intro i ls H locs i1 i2 hn hl hP hD hS
      have hn0 := hn
      have J52 : ∀  (ls : Array Slot) (H : Heap) (locs : List Loc), (tkS tape zz zt = i) → (lv_has ls 5 [(0, .ref (q 36))]) → (va_P D vwCl (wT q C th ta fa sm tape now snaps wz zz i zf zs zn zh zg zk zl rd sa) H) → (va_D A (wT q C th ta fa sm tape now snaps wz zz i zf zs zn zh zg zk zl rd sa)) → (va_S A s.heap H locs) → W p l e (rmN 1 21) s m ([.ref (q 36)] : List Value).toArray below meth c H locs 0 0 Q (F0 m 52 ls []) := by
        intro  ls H locs hs hl hP hD hS
        refine lv_aload_n hx hb dX7_go_52 rfl (lv_at hl 0 rfl) ?_
        refine lv_aload_n hx hb dX7_go_53 rfl (lv_at hl 0 rfl) ?_
        refine va_get (D := D) (ci := 7) (v := .int (iI (i))) (C := RX7) (T := TX7) (N := 23) hx hb hts (by decide +kernel) hown hK hP 0 rfl rfl 4 (by decide) (hts (.fieldLink RX7 21 "BreakSetterModel" "to" "I") (by decide +kernel)) (fun _ h9 => h9) rfl dX7_go_54 ?_
        refine va_put (D := D) (ci := 7) (v := .int (iI (i))) (ty := .int) (C := RX7) (T := TX7) (N := 23) hx hb hts (by decide +kernel) tyX7 tyX7_ok nmX7 hown hK hP hD hS 0 rfl rfl 5 (by decide) (hts (.fieldLink RX7 24 "BreakSetterModel" "from" "I") (by decide +kernel)) (fun _ h9 => h9) rfl (by decide +kernel) rfl rfl (Nat.le_of_ble_eq_true rfl) dX7_go_57 (fun H locs hP hD hS => ?_)
        have hP : va_P D vwCl (wT q C th ta fa sm tape now snaps wz zz i i zs zn zh zg zk zl rd sa) H := hP
        have hD : va_D A (wT q C th ta fa sm tape now snaps wz zz i i zs zn zh zg zk zl rd sa) := hD
        have J93 : ∀  (ls : Array Slot) (H : Heap) (locs : List Loc), (¬ (600 < zz ∧ 600 ≤ i)) → (lv_has ls 5 [(0, .ref (q 36))]) → (va_P D vwCl (wT q C th ta fa sm tape now snaps wz zz i i zs zn zh zg zk zl rd sa) H) → (va_D A (wT q C th ta fa sm tape now snaps wz zz i i zs zn zh zg zk zl rd sa)) → (va_S A s.heap H locs) → W p l e (rmN 1 21) s m ([.ref (q 36)] : List Value).toArray below meth c H locs 0 0 Q (F0 m 93 ls []) := by
          intro  ls H locs n6 hl hP hD hS
          refine lv_aload_n hx hb dX7_go_93 rfl (lv_at hl 0 rfl) ?_
          refine va_get (D := D) (ci := 7) (v := .int (iI (i))) (C := RX7) (T := TX7) (N := 23) hx hb hts (by decide +kernel) hown hK hP 0 rfl rfl 4 (by decide) (hts (.fieldLink RX7 21 "BreakSetterModel" "to" "I") (by decide +kernel)) (fun _ h9 => h9) rfl dX7_go_94 ?_
          refine lv_aload_n hx hb dX7_go_97 rfl (lv_at hl 0 rfl) ?_
          refine va_get (D := D) (ci := 7) (v := .int (iI (zz))) (C := RX7) (T := TX7) (N := 23) hx hb hts (by decide +kernel) hown hK hP 0 rfl rfl 3 (by decide) (hts (.fieldLink RX7 18 "BreakSetterModel" "size" "I") (by decide +kernel)) (fun _ h9 => h9) rfl dX7_go_98 ?_
          refine j_icmp_lt (tgt := 110) hx hb dX7_go_101 rfl ⟨by omega, by omega⟩ ⟨by omega, by omega⟩ (fun c101 => ?_) (fun c101 => ?_)
          · skip
            have tb := hb9 i (by omega) (by omega)
            refine lv_aload_n hx hb dX7_go_110 rfl (lv_at hl 0 rfl) ?_
            refine va_get (D := D) (ci := 7) (v := .ref (q 37)) (C := RX7) (T := TX7) (N := 23) hx hb hts (by decide +kernel) hown hK hP 0 rfl rfl 1 (by decide) (hts (.fieldLink RX7 7 "BreakSetterModel" "tape" "[I") (by decide +kernel)) (fun _ h9 => h9) rfl dX7_go_111 ?_
            refine lv_aload_n hx hb dX7_go_114 rfl (lv_at hl 0 rfl) ?_
            refine va_get (D := D) (ci := 7) (v := .int (iI (i))) (C := RX7) (T := TX7) (N := 23) hx hb hts (by decide +kernel) hown hK hP 0 rfl rfl 4 (by decide) (hts (.fieldLink RX7 21 "BreakSetterModel" "to" "I") (by decide +kernel)) (fun _ h9 => h9) rfl dX7_go_115 ?_
            refine j_iald hx hb hK hP 1 1 rfl rfl ⟨by omega, by omega⟩ (Nat.le_of_ble_eq_true rfl) dX7_go_118 ?_
            refine lv_istore_n (lv' := [(1, .int (iI (tape i))), (0, .ref (q 36))]) hx hb dX7_go_119 rfl hl (by decide) rfl (fun ls hl => ?_)
            have J160 : ∀  (ls : Array Slot) (H : Heap) (locs : List Loc), (isRn (tape i)) → (lv_has ls 5 [(1, .int (iI (tape i))), (0, .ref (q 36))]) → (va_P D vwCl (wT q C th ta fa sm tape now snaps wz zz i i zs zn zh zg zk zl rd sa) H) → (va_D A (wT q C th ta fa sm tape now snaps wz zz i i zs zn zh zg zk zl rd sa)) → (va_S A s.heap H locs) → W p l e (rmN 1 21) s m ([.ref (q 36)] : List Value).toArray below meth c H locs 0 0 Q (F0 m 160 ls []) := by
              intro  ls H locs hr hl hP hD hS
              have tb := hb9 i (by omega) (by omega)
              refine lv_iload_n hx hb dX7_go_160 rfl (lv_at hl 0 rfl) ?_
              refine CR_callS (As := [.int (iI (tape i))]) (rest := []) ⟨hx, hb, hml, hown, hts⟩ (c_X7_isLetter ⟨by omega, by omega⟩) (cwS 1 hts gX7_go_X7_isLetter rfl rfl rfl (by decide +kernel) ⟨Nat.le_of_ble_eq_true rfl, Nat.le_of_ble_eq_true rfl⟩) hK hNW hP rfl hl.1 rfl (Nat.le_of_ble_eq_true rfl) dX7_go_161 ⟨Nat.zero_le _, Nat.zero_le _⟩ ?_
              refine lv_istore_n (lv' := [(2, .int (iI (bI (97 ≤ tape i ∧ tape i ≤ 122)))), (1, .int (iI (tape i))), (0, .ref (q 36))]) hx hb dX7_go_164 rfl hl (by decide) rfl (fun ls hl => ?_)
              refine lv_iconst (v := iI (1)) hx hb dX7_go_165 rfl ?_
              refine lv_istore_n (lv' := [(3, .int (iI (1))), (2, .int (iI (bI (97 ≤ tape i ∧ tape i ≤ 122)))), (1, .int (iI (tape i))), (0, .ref (q 36))]) hx hb dX7_go_166 rfl hl (by decide) rfl (fun ls hl => ?_)
              refine lv_aload_n hx hb dX7_go_167 rfl (lv_at hl 3 rfl) ?_
              refine lv_lconst (v := lI (0)) hx hb dX7_go_168 rfl ?_
              refine va_put (D := D) (ci := 7) (v := .long (lI (0))) (ty := .long) (C := RX7) (T := TX7) (N := 23) hx hb hts (by decide +kernel) tyX7 tyX7_ok nmX7 hown hK hP hD hS 0 rfl rfl 10 (by decide) (hts (.fieldLink RX7 37 "BreakSetterModel" "word" "J") (by decide +kernel)) (fun _ h9 => h9) rfl (by decide +kernel) rfl rfl (Nat.le_of_ble_eq_true rfl) dX7_go_169 (fun H locs hP hD hS => ?_)
              have hP : va_P D vwCl (wT q C th ta fa sm tape now snaps 0 zz i i zs zn zh zg zk zl rd sa) H := hP
              have hD : va_D A (wT q C th ta fa sm tape now snaps 0 zz i i zs zn zh zg zk zl rd sa) := hD
              refine lv_aload_n hx hb dX7_go_172 rfl (lv_at hl 3 rfl) ?_
              refine lv_iconst (v := iI (0)) hx hb dX7_go_173 rfl ?_
              refine va_put (D := D) (ci := 7) (v := .int (iI (0))) (ty := .int) (C := RX7) (T := TX7) (N := 23) hx hb hts (by decide +kernel) tyX7 tyX7_ok nmX7 hown hK hP hD hS 0 rfl rfl 7 (by decide) (hts (.fieldLink RX7 41 "BreakSetterModel" "number" "I") (by decide +kernel)) (fun _ h9 => h9) rfl (by decide +kernel) rfl rfl (Nat.le_of_ble_eq_true rfl) dX7_go_174 (fun H locs hP hD hS => ?_)
              have hP : va_P D vwCl (wT q C th ta fa sm tape now snaps 0 zz i i zs 0 zh zg zk zl rd sa) H := hP
              have hD : va_D A (wT q C th ta fa sm tape now snaps 0 zz i i zs 0 zh zg zk zl rd sa) := hD
              have L177 : ∀ (n : Nat) (k : Int) (gd : Int) (nv : Int) (wv : Int) (ls : Array Slot) (H : Heap) (locs : List Loc), (i ≤ k ∧ k ≤ zz) → (skp isRn tape zz k = skp isRn tape zz i) → (gd = gdf tape i k) → (nv = nmb tape i (min k (i + 2))) → (wv = wvb tape i (min k (i + 6))) → ((zz - k).toNat < n) → (lv_has ls 5 [(3, .int (iI (gd))), (2, .int (iI (bI (97 ≤ tape i ∧ tape i ≤ 122)))), (1, .int (iI (tape i))), (0, .ref (q 36))]) → (va_P D vwCl (wT q C th ta fa sm tape now snaps wv zz k i zs nv zh zg zk zl rd sa) H) → (va_D A (wT q C th ta fa sm tape now snaps wv zz k i zs nv zh zg zk zl rd sa)) → (va_S A s.heap H locs) → W p l e (rmN 1 21) s m ([.ref (q 36)] : List Value).toArray below meth c H locs 0 0 Q (F0 m 177 ls []) := by
                intro n
                induction n with
                | zero => intro k gd nv wv ls H locs k1 k2 k3 k4 k5 hn; exact absurd hn (Nat.not_lt_zero _)
                | succ n ih177 =>
                  intro k gd nv wv ls H locs k1 k2 k3 k4 k5 hn hl hP hD hS
                  have hn177 := hn
                  have tr := tA_rng hb9 hz.2 (k := k) (by omega)
                  have J205 : ∀  (ls : Array Slot) (H : Heap) (locs : List Loc), (k < zz ∧ isRn (tape k)) → (lv_has ls 5 [(3, .int (iI (gd))), (2, .int (iI (bI (97 ≤ tape i ∧ tape i ≤ 122)))), (1, .int (iI (tape i))), (0, .ref (q 36))]) → (va_P D vwCl (wT q C th ta fa sm tape now snaps wv zz k i zs nv zh zg zk zl rd sa) H) → (va_D A (wT q C th ta fa sm tape now snaps wv zz k i zs nv zh zg zk zl rd sa)) → (va_S A s.heap H locs) → W p l e (rmN 1 21) s m ([.ref (q 36)] : List Value).toArray below meth c H locs 0 0 Q (F0 m 205 ls []) := by
                    intro  ls H locs kn hl hP hD hS
                    have tk := hb9 k (by omega) (by omega)
                    refine lv_aload_n hx hb dX7_go_205 rfl (lv_at hl 3 rfl) ?_
                    refine va_get (D := D) (ci := 7) (v := .ref (q 37)) (C := RX7) (T := TX7) (N := 23) hx hb hts (by decide +kernel) hown hK hP 0 rfl rfl 1 (by decide) (hts (.fieldLink RX7 7 "BreakSetterModel" "tape" "[I") (by decide +kernel)) (fun _ h9 => h9) rfl dX7_go_206 ?_
                    refine lv_aload_n hx hb dX7_go_209 rfl (lv_at hl 3 rfl) ?_
                    refine va_get (D := D) (ci := 7) (v := .int (iI (k))) (C := RX7) (T := TX7) (N := 23) hx hb hts (by decide +kernel) hown hK hP 0 rfl rfl 4 (by decide) (hts (.fieldLink RX7 21 "BreakSetterModel" "to" "I") (by decide +kernel)) (fun _ h9 => h9) rfl dX7_go_210 ?_
                    refine j_iald hx hb hK hP 1 1 rfl rfl ⟨by omega, by omega⟩ (Nat.le_of_ble_eq_true rfl) dX7_go_213 ?_
                    refine lv_istore (lv' := [(4, .int (iI (tape k))), (3, .int (iI (gd))), (2, .int (iI (bI (97 ≤ tape i ∧ tape i ≤ 122)))), (1, .int (iI (tape i))), (0, .ref (q 36))]) hx hb dX7_go_214 hl (by decide) rfl (fun ls hl => ?_)
                    have J234 : ∀ (gg : Int) (ls : Array Slot) (H : Heap) (locs : List Loc), (gg = gdf tape i (k + 1)) → (lv_has ls 5 [(4, .int (iI (tape k))), (3, .int (iI (gd))), (2, .int (iI (bI (97 ≤ tape i ∧ tape i ≤ 122)))), (1, .int (iI (tape i))), (0, .ref (q 36))]) → (va_P D vwCl (wT q C th ta fa sm tape now snaps wv zz k i zs nv zh zg zk zl rd sa) H) → (va_D A (wT q C th ta fa sm tape now snaps wv zz k i zs nv zh zg zk zl rd sa)) → (va_S A s.heap H locs) → W p l e (rmN 1 21) s m ([.ref (q 36)] : List Value).toArray below meth c H locs 0 0 Q (F0 m 234 ls [.int (iI (gg))]) := by
                      intro gg ls H locs g9 hl hP hD hS
                      refine lv_istore_n (lv' := [(3, .int (iI (gg))), (4, .int (iI (tape k))), (2, .int (iI (bI (97 ≤ tape i ∧ tape i ≤ 122)))), (1, .int (iI (tape i))), (0, .ref (q 36))]) hx hb dX7_go_234 rfl hl (by decide) rfl (fun ls hl => ?_)
                      refine lv_aload_n hx hb dX7_go_235 rfl (lv_at hl 4 rfl) ?_
                      refine va_get (D := D) (ci := 7) (v := .int (iI (k))) (C := RX7) (T := TX7) (N := 23) hx hb hts (by decide +kernel) hown hK hP 0 rfl rfl 4 (by decide) (hts (.fieldLink RX7 21 "BreakSetterModel" "to" "I") (by decide +kernel)) (fun _ h9 => h9) rfl dX7_go_236 ?_
                      refine lv_aload_n hx hb dX7_go_239 rfl (lv_at hl 4 rfl) ?_
                      refine va_get (D := D) (ci := 7) (v := .int (iI (i))) (C := RX7) (T := TX7) (N := 23) hx hb hts (by decide +kernel) hown hK hP 0 rfl rfl 5 (by decide) (hts (.fieldLink RX7 24 "BreakSetterModel" "from" "I") (by decide +kernel)) (fun _ h9 => h9) rfl dX7_go_240 ?_
                      refine j_isub hx hb dX7_go_243 ?_
                      refine lv_bipush (v := iI (6)) hx hb dX7_go_244 (by decide) ?_
                      refine j_icmp_ge (tgt := 269) hx hb dX7_go_246 rfl ⟨by omega, by omega⟩ ⟨by decide, by decide⟩ (fun c246 => ?_) (fun c246 => ?_)
                      · skip
                        refine lv_aload_n hx hb dX7_go_269 rfl (lv_at hl 4 rfl) ?_
                        refine va_get (D := D) (ci := 7) (v := .int (iI (k))) (C := RX7) (T := TX7) (N := 23) hx hb hts (by decide +kernel) hown hK hP 0 rfl rfl 4 (by decide) (hts (.fieldLink RX7 21 "BreakSetterModel" "to" "I") (by decide +kernel)) (fun _ h9 => h9) rfl dX7_go_270 ?_
                        refine lv_aload_n hx hb dX7_go_273 rfl (lv_at hl 4 rfl) ?_
                        refine va_get (D := D) (ci := 7) (v := .int (iI (i))) (C := RX7) (T := TX7) (N := 23) hx hb hts (by decide +kernel) hown hK hP 0 rfl rfl 5 (by decide) (hts (.fieldLink RX7 24 "BreakSetterModel" "from" "I") (by decide +kernel)) (fun _ h9 => h9) rfl dX7_go_274 ?_
                        refine j_isub hx hb dX7_go_277 ?_
                        refine lv_iconst (v := iI (2)) hx hb dX7_go_278 rfl ?_
                        refine j_icmp_ge (tgt := 299) hx hb dX7_go_279 rfl ⟨by omega, by omega⟩ ⟨by decide, by decide⟩ (fun c279 => ?_) (fun c279 => ?_)
                        · skip
                          refine lv_aload_n hx hb dX7_go_299 rfl (lv_at hl 4 rfl) ?_
                          refine lv_dup hx hb dX7_go_300 rfl ?_
                          refine va_get (D := D) (ci := 7) (v := .int (iI (k))) (C := RX7) (T := TX7) (N := 23) hx hb hts (by decide +kernel) hown hK hP 0 rfl rfl 4 (by decide) (hts (.fieldLink RX7 21 "BreakSetterModel" "to" "I") (by decide +kernel)) (fun _ h9 => h9) rfl dX7_go_301 ?_
                          refine lv_iconst (v := iI (1)) hx hb dX7_go_304 rfl ?_
                          refine j_iadd hx hb dX7_go_305 ?_
                          refine va_put (D := D) (ci := 7) (v := .int (iI (k + 1))) (ty := .int) (C := RX7) (T := TX7) (N := 23) hx hb hts (by decide +kernel) tyX7 tyX7_ok nmX7 hown hK hP hD hS 0 rfl rfl 4 (by decide) (hts (.fieldLink RX7 21 "BreakSetterModel" "to" "I") (by decide +kernel)) (fun _ h9 => h9) rfl (by decide +kernel) rfl rfl (Nat.le_of_ble_eq_true rfl) dX7_go_306 (fun H locs hP hD hS => ?_)
                          have hP : va_P D vwCl (wT q C th ta fa sm tape now snaps wv zz (k + 1) i zs nv zh zg zk zl rd sa) H := hP
                          have hD : va_D A (wT q C th ta fa sm tape now snaps wv zz (k + 1) i zs nv zh zg zk zl rd sa) := hD
                          refine lv_goto (tgt := 177) hx hb dX7_go_309 rfl ?_
                          exact ih177 (k + 1) gg nv wv ls H locs (by omega) (by rw [← skp_s kn.1 kn.2]; exact k2) g9 (by first | (rw [show min (k + 1) (i + 2) = k + 1 by omega, nmb_s k1.1, k4, show min k (i + 2) = k by omega]; omega; done) | (rw [k4, show min (k + 1) (i + 2) = min k (i + 2) by omega]; done)) (by first | (rw [show min (k + 1) (i + 6) = k + 1 by omega, wvb_s k1.1, k5, show min k (i + 6) = k by omega]; done) | (rw [k5, show min (k + 1) (i + 6) = min k (i + 6) by omega]; done)) (by omega) (lv_sub hl [0, 2, 3, 4] rfl) hP hD hS
                        · skip
                          refine lv_aload_n hx hb dX7_go_282 rfl (lv_at hl 4 rfl) ?_
                          refine lv_bipush (v := iI (10)) hx hb dX7_go_283 (by decide) ?_
                          refine lv_aload_n hx hb dX7_go_285 rfl (lv_at hl 4 rfl) ?_
                          refine va_get (D := D) (ci := 7) (v := .int (iI (nv))) (C := RX7) (T := TX7) (N := 23) hx hb hts (by decide +kernel) hown hK hP 0 rfl rfl 7 (by decide) (hts (.fieldLink RX7 41 "BreakSetterModel" "number" "I") (by decide +kernel)) (fun _ h9 => h9) rfl dX7_go_286 ?_
                          refine j_imul hx hb dX7_go_289 ?_
                          refine lv_iload hx hb dX7_go_290 (lv_at hl 1 rfl) ?_
                          refine j_iadd hx hb dX7_go_292 ?_
                          refine lv_bipush (v := iI (48)) hx hb dX7_go_293 (by decide) ?_
                          refine j_isub hx hb dX7_go_295 ?_
                          refine va_put (D := D) (ci := 7) (v := .int (iI (((10 * nv) + (tape k)) - 48))) (ty := .int) (C := RX7) (T := TX7) (N := 23) hx hb hts (by decide +kernel) tyX7 tyX7_ok nmX7 hown hK hP hD hS 0 rfl rfl 7 (by decide) (hts (.fieldLink RX7 41 "BreakSetterModel" "number" "I") (by decide +kernel)) (fun _ h9 => h9) rfl (by decide +kernel) rfl rfl (Nat.le_of_ble_eq_true rfl) dX7_go_296 (fun H locs hP hD hS => ?_)
                          have hP : va_P D vwCl (wT q C th ta fa sm tape now snaps wv zz k i zs (((10 * nv) + (tape k)) - 48) zh zg zk zl rd sa) H := hP
                          have hD : va_D A (wT q C th ta fa sm tape now snaps wv zz k i zs (((10 * nv) + (tape k)) - 48) zh zg zk zl rd sa) := hD
                          refine lv_aload_n hx hb dX7_go_299 rfl (lv_at hl 4 rfl) ?_
                          refine lv_dup hx hb dX7_go_300 rfl ?_
                          refine va_get (D := D) (ci := 7) (v := .int (iI (k))) (C := RX7) (T := TX7) (N := 23) hx hb hts (by decide +kernel) hown hK hP 0 rfl rfl 4 (by decide) (hts (.fieldLink RX7 21 "BreakSetterModel" "to" "I") (by decide +kernel)) (fun _ h9 => h9) rfl dX7_go_301 ?_
                          refine lv_iconst (v := iI (1)) hx hb dX7_go_304 rfl ?_
                          refine j_iadd hx hb dX7_go_305 ?_
                          refine va_put (D := D) (ci := 7) (v := .int (iI (k + 1))) (ty := .int) (C := RX7) (T := TX7) (N := 23) hx hb hts (by decide +kernel) tyX7 tyX7_ok nmX7 hown hK hP hD hS 0 rfl rfl 4 (by decide) (hts (.fieldLink RX7 21 "BreakSetterModel" "to" "I") (by decide +kernel)) (fun _ h9 => h9) rfl (by decide +kernel) rfl rfl (Nat.le_of_ble_eq_true rfl) dX7_go_306 (fun H locs hP hD hS => ?_)
                          have hP : va_P D vwCl (wT q C th ta fa sm tape now snaps wv zz (k + 1) i zs (((10 * nv) + (tape k)) - 48) zh zg zk zl rd sa) H := hP
                          have hD : va_D A (wT q C th ta fa sm tape now snaps wv zz (k + 1) i zs (((10 * nv) + (tape k)) - 48) zh zg zk zl rd sa) := hD
                          refine lv_goto (tgt := 177) hx hb dX7_go_309 rfl ?_
                          exact ih177 (k + 1) gg (((10 * nv) + (tape k)) - 48) wv ls H locs (by omega) (by rw [← skp_s kn.1 kn.2]; exact k2) g9 (by first | (rw [show min (k + 1) (i + 2) = k + 1 by omega, nmb_s k1.1, k4, show min k (i + 2) = k by omega]; omega; done) | (rw [k4, show min (k + 1) (i + 2) = min k (i + 2) by omega]; done)) (by first | (rw [show min (k + 1) (i + 6) = k + 1 by omega, wvb_s k1.1, k5, show min k (i + 6) = k by omega]; done) | (rw [k5, show min (k + 1) (i + 6) = min k (i + 6) by omega]; done)) (by omega) (lv_sub hl [0, 2, 3, 4] rfl) hP hD hS
                      · skip
                        refine lv_aload_n hx hb dX7_go_249 rfl (lv_at hl 4 rfl) ?_
                        refine lv_ldc2 (v := 27) hx hb hown (hts (.constantLong RX7 48 (27)) (by decide +kernel)) dX7_go_250 ?_
                        refine W_wenL (y := lI (27)) lI_27 ?_
                        refine lv_aload_n hx hb dX7_go_253 rfl (lv_at hl 4 rfl) ?_
                        refine va_get (D := D) (ci := 7) (v := .long (lI (wv))) (C := RX7) (T := TX7) (N := 23) hx hb hts (by decide +kernel) hown hK hP 0 rfl rfl 10 (by decide) (hts (.fieldLink RX7 37 "BreakSetterModel" "word" "J") (by decide +kernel)) (fun _ h9 => h9) rfl dX7_go_254 ?_
                        refine j_lmul hx hb dX7_go_257 ?_
                        refine lv_iload hx hb dX7_go_258 (lv_at hl 1 rfl) ?_
                        refine j_i2l hx hb dX7_go_260 ⟨by omega, by omega⟩ ?_
                        refine j_ladd hx hb dX7_go_261 ?_
                        refine lv_ldc2 (v := 96) hx hb hown (hts (.constantLong RX7 50 (96)) (by decide +kernel)) dX7_go_262 ?_
                        refine W_wenL (y := lI (96)) lI_96 ?_
                        refine j_lsub hx hb dX7_go_265 ?_
                        refine va_put (D := D) (ci := 7) (v := .long (lI (((27 * wv) + (tape k)) - 96))) (ty := .long) (C := RX7) (T := TX7) (N := 23) hx hb hts (by decide +kernel) tyX7 tyX7_ok nmX7 hown hK hP hD hS 0 rfl rfl 10 (by decide) (hts (.fieldLink RX7 37 "BreakSetterModel" "word" "J") (by decide +kernel)) (fun _ h9 => h9) rfl (by decide +kernel) rfl rfl (Nat.le_of_ble_eq_true rfl) dX7_go_266 (fun H locs hP hD hS => ?_)
                        have hP : va_P D vwCl (wT q C th ta fa sm tape now snaps (((27 * wv) + (tape k)) - 96) zz k i zs nv zh zg zk zl rd sa) H := hP
                        have hD : va_D A (wT q C th ta fa sm tape now snaps (((27 * wv) + (tape k)) - 96) zz k i zs nv zh zg zk zl rd sa) := hD
                        refine lv_aload_n hx hb dX7_go_269 rfl (lv_at hl 4 rfl) ?_
                        refine va_get (D := D) (ci := 7) (v := .int (iI (k))) (C := RX7) (T := TX7) (N := 23) hx hb hts (by decide +kernel) hown hK hP 0 rfl rfl 4 (by decide) (hts (.fieldLink RX7 21 "BreakSetterModel" "to" "I") (by decide +kernel)) (fun _ h9 => h9) rfl dX7_go_270 ?_
                        refine lv_aload_n hx hb dX7_go_273 rfl (lv_at hl 4 rfl) ?_
                        refine va_get (D := D) (ci := 7) (v := .int (iI (i))) (C := RX7) (T := TX7) (N := 23) hx hb hts (by decide +kernel) hown hK hP 0 rfl rfl 5 (by decide) (hts (.fieldLink RX7 24 "BreakSetterModel" "from" "I") (by decide +kernel)) (fun _ h9 => h9) rfl dX7_go_274 ?_
                        refine j_isub hx hb dX7_go_277 ?_
                        refine lv_iconst (v := iI (2)) hx hb dX7_go_278 rfl ?_
                        refine j_icmp_ge (tgt := 299) hx hb dX7_go_279 rfl ⟨by omega, by omega⟩ ⟨by decide, by decide⟩ (fun c279 => ?_) (fun c279 => ?_)
                        · skip
                          refine lv_aload_n hx hb dX7_go_299 rfl (lv_at hl 4 rfl) ?_
                          refine lv_dup hx hb dX7_go_300 rfl ?_
                          refine va_get (D := D) (ci := 7) (v := .int (iI (k))) (C := RX7) (T := TX7) (N := 23) hx hb hts (by decide +kernel) hown hK hP 0 rfl rfl 4 (by decide) (hts (.fieldLink RX7 21 "BreakSetterModel" "to" "I") (by decide +kernel)) (fun _ h9 => h9) rfl dX7_go_301 ?_
                          refine lv_iconst (v := iI (1)) hx hb dX7_go_304 rfl ?_
                          refine j_iadd hx hb dX7_go_305 ?_
                          refine va_put (D := D) (ci := 7) (v := .int (iI (k + 1))) (ty := .int) (C := RX7) (T := TX7) (N := 23) hx hb hts (by decide +kernel) tyX7 tyX7_ok nmX7 hown hK hP hD hS 0 rfl rfl 4 (by decide) (hts (.fieldLink RX7 21 "BreakSetterModel" "to" "I") (by decide +kernel)) (fun _ h9 => h9) rfl (by decide +kernel) rfl rfl (Nat.le_of_ble_eq_true rfl) dX7_go_306 (fun H locs hP hD hS => ?_)
                          have hP : va_P D vwCl (wT q C th ta fa sm tape now snaps (((27 * wv) + (tape k)) - 96) zz (k + 1) i zs nv zh zg zk zl rd sa) H := hP
                          have hD : va_D A (wT q C th ta fa sm tape now snaps (((27 * wv) + (tape k)) - 96) zz (k + 1) i zs nv zh zg zk zl rd sa) := hD
                          refine lv_goto (tgt := 177) hx hb dX7_go_309 rfl ?_
                          exact ih177 (k + 1) gg nv (((27 * wv) + (tape k)) - 96) ls H locs (by omega) (by rw [← skp_s kn.1 kn.2]; exact k2) g9 (by first | (rw [show min (k + 1) (i + 2) = k + 1 by omega, nmb_s k1.1, k4, show min k (i + 2) = k by omega]; omega; done) | (rw [k4, show min (k + 1) (i + 2) = min k (i + 2) by omega]; done)) (by first | (rw [show min (k + 1) (i + 6) = k + 1 by omega, wvb_s k1.1, k5, show min k (i + 6) = k by omega]; done) | (rw [k5, show min (k + 1) (i + 6) = min k (i + 6) by omega]; done)) (by omega) (lv_sub hl [0, 2, 3, 4] rfl) hP hD hS
                        · skip
                          refine lv_aload_n hx hb dX7_go_282 rfl (lv_at hl 4 rfl) ?_
                          refine lv_bipush (v := iI (10)) hx hb dX7_go_283 (by decide) ?_
                          refine lv_aload_n hx hb dX7_go_285 rfl (lv_at hl 4 rfl) ?_
                          refine va_get (D := D) (ci := 7) (v := .int (iI (nv))) (C := RX7) (T := TX7) (N := 23) hx hb hts (by decide +kernel) hown hK hP 0 rfl rfl 7 (by decide) (hts (.fieldLink RX7 41 "BreakSetterModel" "number" "I") (by decide +kernel)) (fun _ h9 => h9) rfl dX7_go_286 ?_
                          refine j_imul hx hb dX7_go_289 ?_
                          refine lv_iload hx hb dX7_go_290 (lv_at hl 1 rfl) ?_
                          refine j_iadd hx hb dX7_go_292 ?_
                          refine lv_bipush (v := iI (48)) hx hb dX7_go_293 (by decide) ?_
                          refine j_isub hx hb dX7_go_295 ?_
                          refine va_put (D := D) (ci := 7) (v := .int (iI (((10 * nv) + (tape k)) - 48))) (ty := .int) (C := RX7) (T := TX7) (N := 23) hx hb hts (by decide +kernel) tyX7 tyX7_ok nmX7 hown hK hP hD hS 0 rfl rfl 7 (by decide) (hts (.fieldLink RX7 41 "BreakSetterModel" "number" "I") (by decide +kernel)) (fun _ h9 => h9) rfl (by decide +kernel) rfl rfl (Nat.le_of_ble_eq_true rfl) dX7_go_296 (fun H locs hP hD hS => ?_)
                          have hP : va_P D vwCl (wT q C th ta fa sm tape now snaps (((27 * wv) + (tape k)) - 96) zz k i zs (((10 * nv) + (tape k)) - 48) zh zg zk zl rd sa) H := hP
                          have hD : va_D A (wT q C th ta fa sm tape now snaps (((27 * wv) + (tape k)) - 96) zz k i zs (((10 * nv) + (tape k)) - 48) zh zg zk zl rd sa) := hD
                          refine lv_aload_n hx hb dX7_go_299 rfl (lv_at hl 4 rfl) ?_
                          refine lv_dup hx hb dX7_go_300 rfl ?_
                          refine va_get (D := D) (ci := 7) (v := .int (iI (k))) (C := RX7) (T := TX7) (N := 23) hx hb hts (by decide +kernel) hown hK hP 0 rfl rfl 4 (by decide) (hts (.fieldLink RX7 21 "BreakSetterModel" "to" "I") (by decide +kernel)) (fun _ h9 => h9) rfl dX7_go_301 ?_
                          refine lv_iconst (v := iI (1)) hx hb dX7_go_304 rfl ?_
                          refine j_iadd hx hb dX7_go_305 ?_
                          refine va_put (D := D) (ci := 7) (v := .int (iI (k + 1))) (ty := .int) (C := RX7) (T := TX7) (N := 23) hx hb hts (by decide +kernel) tyX7 tyX7_ok nmX7 hown hK hP hD hS 0 rfl rfl 4 (by decide) (hts (.fieldLink RX7 21 "BreakSetterModel" "to" "I") (by decide +kernel)) (fun _ h9 => h9) rfl (by decide +kernel) rfl rfl (Nat.le_of_ble_eq_true rfl) dX7_go_306 (fun H locs hP hD hS => ?_)
                          have hP : va_P D vwCl (wT q C th ta fa sm tape now snaps (((27 * wv) + (tape k)) - 96) zz (k + 1) i zs (((10 * nv) + (tape k)) - 48) zh zg zk zl rd sa) H := hP
                          have hD : va_D A (wT q C th ta fa sm tape now snaps (((27 * wv) + (tape k)) - 96) zz (k + 1) i zs (((10 * nv) + (tape k)) - 48) zh zg zk zl rd sa) := hD
                          refine lv_goto (tgt := 177) hx hb dX7_go_309 rfl ?_
                          exact ih177 (k + 1) gg (((10 * nv) + (tape k)) - 48) (((27 * wv) + (tape k)) - 96) ls H locs (by omega) (by rw [← skp_s kn.1 kn.2]; exact k2) g9 (by first | (rw [show min (k + 1) (i + 2) = k + 1 by omega, nmb_s k1.1, k4, show min k (i + 2) = k by omega]; omega; done) | (rw [k4, show min (k + 1) (i + 2) = min k (i + 2) by omega]; done)) (by first | (rw [show min (k + 1) (i + 6) = k + 1 by omega, wvb_s k1.1, k5, show min k (i + 6) = k by omega]; done) | (rw [k5, show min (k + 1) (i + 6) = min k (i + 6) by omega]; done)) (by omega) (lv_sub hl [0, 2, 3, 4] rfl) hP hD hS
                    refine lv_iload_n hx hb dX7_go_216 rfl (lv_at hl 1 rfl) ?_
                    refine j_if_eq (tgt := 233) hx hb dX7_go_217 rfl (by rw [k3]; exact bI_R _) (fun c217 => ?_) (fun c217 => ?_)
                    · skip
                      refine lv_iconst (v := iI (0)) hx hb dX7_go_233 rfl ?_
                      exact J234 0 ls H locs (by exact (gd_s0 (k3.symm.trans c217)).symm)  (lv_sub hl [0, 1, 2, 3, 4] rfl) hP hD hS
                    · skip
                      refine lv_iload hx hb dX7_go_220 (lv_at hl 0 rfl) ?_
                      refine CR_callS (As := [.int (iI (tape k))]) (rest := []) ⟨hx, hb, hml, hown, hts⟩ (c_X7_isLetter ⟨by omega, by omega⟩) (cwS 1 hts gX7_go_X7_isLetter rfl rfl rfl (by decide +kernel) ⟨Nat.le_of_ble_eq_true rfl, Nat.le_of_ble_eq_true rfl⟩) hK hNW hP rfl hl.1 rfl (Nat.le_of_ble_eq_true rfl) dX7_go_222 ⟨Nat.zero_le _, Nat.zero_le _⟩ ?_
                      refine lv_iload_n hx hb dX7_go_225 rfl (lv_at hl 2 rfl) ?_
                      refine j_icmp_ne (tgt := 233) hx hb dX7_go_226 rfl (bI_R _) (bI_R _) (fun c226 => ?_) (fun c226 => ?_)
                      · skip
                        refine lv_iconst (v := iI (0)) hx hb dX7_go_233 rfl ?_
                        exact J234 0 ls H locs (by first | exact (gd_s0 (k3.symm.trans c217)).symm | exact (gd_s1 k1.1 c226).symm | exact (gd_s2 (fun z => c217 (k3.trans z)) c226).symm)  (lv_sub hl [0, 1, 2, 3, 4] rfl) hP hD hS
                      · skip
                        refine lv_iconst (v := iI (1)) hx hb dX7_go_229 rfl ?_
                        refine lv_goto (tgt := 234) hx hb dX7_go_230 rfl ?_
                        exact J234 1 ls H locs (by first | exact (gd_s0 (k3.symm.trans c217)).symm | exact (gd_s1 k1.1 c226).symm | exact (gd_s2 (fun z => c217 (k3.trans z)) c226).symm)  (lv_sub hl [0, 1, 2, 3, 4] rfl) hP hD hS
                  refine lv_aload_n hx hb dX7_go_177 rfl (lv_at hl 3 rfl) ?_
                  refine lv_aload_n hx hb dX7_go_178 rfl (lv_at hl 3 rfl) ?_
                  refine va_get (D := D) (ci := 7) (v := .int (iI (k))) (C := RX7) (T := TX7) (N := 23) hx hb hts (by decide +kernel) hown hK hP 0 rfl rfl 4 (by decide) (hts (.fieldLink RX7 21 "BreakSetterModel" "to" "I") (by decide +kernel)) (fun _ h9 => h9) rfl dX7_go_179 ?_
                  refine CR_callV (As := [.int (iI (k))]) (rest := []) ⟨hx, hb, hml, hown, hts⟩ (c_X7_tapeAt ⟨by omega, by omega⟩ (by omega)) (cwV 1 hts gX7_go_X7_tapeAt rfl rfl rfl (by decide +kernel) ⟨Nat.le_of_ble_eq_true rfl, Nat.le_of_ble_eq_true rfl⟩) (q0 := 0) rfl rfl rfl hK hNW hP rfl hl.1 rfl (Nat.le_of_ble_eq_true rfl) dX7_go_182 ⟨Nat.zero_le _, Nat.zero_le _⟩ ?_
                  refine CR_callS (As := [.int (iI (tA zz tape k))]) (rest := []) ⟨hx, hb, hml, hown, hts⟩ (c_X7_isLetter ⟨by omega, by omega⟩) (cwS 1 hts gX7_go_X7_isLetter rfl rfl rfl (by decide +kernel) ⟨Nat.le_of_ble_eq_true rfl, Nat.le_of_ble_eq_true rfl⟩) hK hNW hP rfl hl.1 rfl (Nat.le_of_ble_eq_true rfl) dX7_go_185 ⟨Nat.zero_le _, Nat.zero_le _⟩ ?_
                  refine j_ifneB (tgt := 205) hx hb dX7_go_188 rfl (fun c188 => ?_) (fun c188 => ?_)
                  · skip
                    exact J205  ls H locs (tA_rn (by exact Or.inl c188))  (lv_sub hl [0, 1, 2, 3] rfl) hP hD hS
                  · skip
                    refine lv_aload_n hx hb dX7_go_191 rfl (lv_at hl 3 rfl) ?_
                    refine lv_aload_n hx hb dX7_go_192 rfl (lv_at hl 3 rfl) ?_
                    refine va_get (D := D) (ci := 7) (v := .int (iI (k))) (C := RX7) (T := TX7) (N := 23) hx hb hts (by decide +kernel) hown hK hP 0 rfl rfl 4 (by decide) (hts (.fieldLink RX7 21 "BreakSetterModel" "to" "I") (by decide +kernel)) (fun _ h9 => h9) rfl dX7_go_193 ?_
                    refine CR_callV (As := [.int (iI (k))]) (rest := []) ⟨hx, hb, hml, hown, hts⟩ (c_X7_tapeAt ⟨by omega, by omega⟩ (by omega)) (cwV 1 hts gX7_go_X7_tapeAt rfl rfl rfl (by decide +kernel) ⟨Nat.le_of_ble_eq_true rfl, Nat.le_of_ble_eq_true rfl⟩) (q0 := 0) rfl rfl rfl hK hNW hP rfl hl.1 rfl (Nat.le_of_ble_eq_true rfl) dX7_go_196 ⟨Nat.zero_le _, Nat.zero_le _⟩ ?_
                    refine CR_callS (As := [.int (iI (tA zz tape k))]) (rest := []) ⟨hx, hb, hml, hown, hts⟩ (c_X7_isDigit ⟨by omega, by omega⟩) (cwS 1 hts gX7_go_X7_isDigit rfl rfl rfl (by decide +kernel) ⟨Nat.le_of_ble_eq_true rfl, Nat.le_of_ble_eq_true rfl⟩) hK hNW hP rfl hl.1 rfl (Nat.le_of_ble_eq_true rfl) dX7_go_199 ⟨Nat.zero_le _, Nat.zero_le _⟩ ?_
                    refine j_ifeqB (tgt := 312) hx hb dX7_go_202 rfl (fun c202 => ?_) (fun c202 => ?_)
                    · skip
                      have ke : skp isRn tape zz k = k := skp_e (fun q => Or.elim (show isRn (tA zz tape k) by rw [tA_t q.1]; exact q.2) c188 c202)
                      have fe : tkE tape zz i = k := by rw [tkE_skp (by omega) hr, ← k2, ke]
                      have fk := (tk_run (show i < zz by omega) hr).1
                      rw [fe] at fk
                      refine lv_aload_n hx hb dX7_go_312 rfl (lv_at hl 3 rfl) ?_
                      refine lv_iload_n hx hb dX7_go_313 rfl (lv_at hl 0 rfl) ?_
                      refine j_if_eq (tgt := 334) hx hb dX7_go_314 rfl (by rw [k3]; exact bI_R _) (fun c314 => ?_) (fun c314 => ?_)
                      · skip
                        refine lv_iconst (v := iI (1)) hx hb dX7_go_334 rfl ?_
                        refine lv_goto (tgt := 347) hx hb dX7_go_335 rfl ?_
                        refine va_put (D := D) (ci := 7) (v := .int (iI (1))) (ty := .int) (C := RX7) (T := TX7) (N := 23) hx hb hts (by decide +kernel) tyX7 tyX7_ok nmX7 hown hK hP hD hS 0 rfl rfl 6 (by decide) (hts (.fieldLink RX7 27 "BreakSetterModel" "sort" "I") (by decide +kernel)) (fun _ h9 => h9) rfl (by decide +kernel) rfl rfl (Nat.le_of_ble_eq_true rfl) dX7_go_347 (fun H locs hP hD hS => ?_)
                        have hP : va_P D vwCl (wT q C th ta fa sm tape now snaps wv zz k i 1 nv zh zg zk zl rd sa) H := hP
                        have hD : va_D A (wT q C th ta fa sm tape now snaps wv zz k i 1 nv zh zg zk zl rd sa) := hD
                        exact hret H locs ls 350 (k, i, 1, nv, wv) dX7_go_350 (LA_mk (i := i) he hs (by omega) (by omega) fe.symm (Or.inl ⟨kd_bad (by omega) hr (by rw [fe]; exact k3.symm.trans c314), rfl⟩)) hP hD hS
                      · skip
                        refine lv_iload_n hx hb dX7_go_317 rfl (lv_at hl 1 rfl) ?_
                        refine j_ifneB (tgt := 338) hx hb dX7_go_318 rfl (fun c318 => ?_) (fun c318 => ?_)
                        · skip
                          refine lv_iload_n hx hb dX7_go_338 rfl (lv_at hl 1 rfl) ?_
                          refine j_ifeqB (tgt := 346) hx hb dX7_go_339 rfl (fun c339 => ?_) (fun c339 => ?_)
                          · skip
                            exact absurd c318 c339
                          · skip
                            refine lv_iconst (v := iI (2)) hx hb dX7_go_342 rfl ?_
                            refine lv_goto (tgt := 347) hx hb dX7_go_343 rfl ?_
                            refine va_put (D := D) (ci := 7) (v := .int (iI (2))) (ty := .int) (C := RX7) (T := TX7) (N := 23) hx hb hts (by decide +kernel) tyX7 tyX7_ok nmX7 hown hK hP hD hS 0 rfl rfl 6 (by decide) (hts (.fieldLink RX7 27 "BreakSetterModel" "sort" "I") (by decide +kernel)) (fun _ h9 => h9) rfl (by decide +kernel) rfl rfl (Nat.le_of_ble_eq_true rfl) dX7_go_347 (fun H locs hP hD hS => ?_)
                            have hP : va_P D vwCl (wT q C th ta fa sm tape now snaps wv zz k i 2 nv zh zg zk zl rd sa) H := hP
                            have hD : va_D A (wT q C th ta fa sm tape now snaps wv zz k i 2 nv zh zg zk zl rd sa) := hD
                            exact hret H locs ls 350 (k, i, 2, nv, wv) dX7_go_350 (LA_mk (i := i) he hs (by omega) (by omega) fe.symm (Or.inr (Or.inl ⟨(kd_w (by omega) c318 (by rw [fe]; exact fun z => c314 (k3.trans z))).1, rfl, by rw [fe]; exact k5, (kd_w (by omega) c318 (by rw [fe]; exact fun z => c314 (k3.trans z))).2⟩))) hP hD hS
                        · skip
                          refine lv_aload_n hx hb dX7_go_321 rfl (lv_at hl 3 rfl) ?_
                          refine va_get (D := D) (ci := 7) (v := .int (iI (k))) (C := RX7) (T := TX7) (N := 23) hx hb hts (by decide +kernel) hown hK hP 0 rfl rfl 4 (by decide) (hts (.fieldLink RX7 21 "BreakSetterModel" "to" "I") (by decide +kernel)) (fun _ h9 => h9) rfl dX7_go_322 ?_
                          refine lv_aload_n hx hb dX7_go_325 rfl (lv_at hl 3 rfl) ?_
                          refine va_get (D := D) (ci := 7) (v := .int (iI (i))) (C := RX7) (T := TX7) (N := 23) hx hb hts (by decide +kernel) hown hK hP 0 rfl rfl 5 (by decide) (hts (.fieldLink RX7 24 "BreakSetterModel" "from" "I") (by decide +kernel)) (fun _ h9 => h9) rfl dX7_go_326 ?_
                          refine j_isub hx hb dX7_go_329 ?_
                          refine lv_iconst (v := iI (2)) hx hb dX7_go_330 rfl ?_
                          refine j_icmp_le (tgt := 338) hx hb dX7_go_331 rfl ⟨by omega, by omega⟩ ⟨by decide, by decide⟩ (fun c331 => ?_) (fun c331 => ?_)
                          · skip
                            refine lv_iload_n hx hb dX7_go_338 rfl (lv_at hl 1 rfl) ?_
                            refine j_ifeqB (tgt := 346) hx hb dX7_go_339 rfl (fun c339 => ?_) (fun c339 => ?_)
                            · skip
                              refine lv_iconst (v := iI (3)) hx hb dX7_go_346 rfl ?_
                              refine va_put (D := D) (ci := 7) (v := .int (iI (3))) (ty := .int) (C := RX7) (T := TX7) (N := 23) hx hb hts (by decide +kernel) tyX7 tyX7_ok nmX7 hown hK hP hD hS 0 rfl rfl 6 (by decide) (hts (.fieldLink RX7 27 "BreakSetterModel" "sort" "I") (by decide +kernel)) (fun _ h9 => h9) rfl (by decide +kernel) rfl rfl (Nat.le_of_ble_eq_true rfl) dX7_go_347 (fun H locs hP hD hS => ?_)
                              have hP : va_P D vwCl (wT q C th ta fa sm tape now snaps wv zz k i 3 nv zh zg zk zl rd sa) H := hP
                              have hD : va_D A (wT q C th ta fa sm tape now snaps wv zz k i 3 nv zh zg zk zl rd sa) := hD
                              exact hret H locs ls 350 (k, i, 3, nv, wv) dX7_go_350 (LA_mk (i := i) he hs (by omega) (by omega) fe.symm (Or.inr (Or.inr (Or.inl (nm_ok (i := i) (k := k) fe.symm (by omega) (by omega) (kd_d (by omega) c318 hr (by rw [fe]; exact fun z => c314 (k3.trans z))) k4))))) hP hD hS
                            · skip
                              exact absurd c339 c318
                          · skip
                            refine lv_iconst (v := iI (1)) hx hb dX7_go_334 rfl ?_
                            refine lv_goto (tgt := 347) hx hb dX7_go_335 rfl ?_
                            refine va_put (D := D) (ci := 7) (v := .int (iI (1))) (ty := .int) (C := RX7) (T := TX7) (N := 23) hx hb hts (by decide +kernel) tyX7 tyX7_ok nmX7 hown hK hP hD hS 0 rfl rfl 6 (by decide) (hts (.fieldLink RX7 27 "BreakSetterModel" "sort" "I") (by decide +kernel)) (fun _ h9 => h9) rfl (by decide +kernel) rfl rfl (Nat.le_of_ble_eq_true rfl) dX7_go_347 (fun H locs hP hD hS => ?_)
                            have hP : va_P D vwCl (wT q C th ta fa sm tape now snaps wv zz k i 1 nv zh zg zk zl rd sa) H := hP
                            have hD : va_D A (wT q C th ta fa sm tape now snaps wv zz k i 1 nv zh zg zk zl rd sa) := hD
                            exact hret H locs ls 350 (k, i, 1, nv, wv) dX7_go_350 (LA_mk (i := i) he hs (by omega) (by omega) fe.symm (Or.inl ⟨(kd_d (by omega) c318 hr (by rw [fe]; exact fun z => c314 (k3.trans z))).2.2 (by rw [fe]; omega), rfl⟩)) hP hD hS
                    · skip
                      exact J205  ls H locs (tA_rn (by first | exact Or.inl c188 | exact Or.inr c202))  (lv_sub hl [0, 1, 2, 3] rfl) hP hD hS
              exact L177 _ i 1 0 0 ls H locs (by omega) rfl (gd_0 _ _).symm (by rw [show min i (i + 2) = i by omega, nmb_0]) (by rw [show min i (i + 6) = i by omega, wvb_0]) (Nat.lt_succ_self _) (lv_sub hl [0, 1, 2, 3] rfl) hP hD hS
            refine lv_iload_n hx hb dX7_go_120 rfl (lv_at hl 0 rfl) ?_
            refine CR_callS (As := [.int (iI (tape i))]) (rest := []) ⟨hx, hb, hml, hown, hts⟩ (c_X7_isLetter ⟨by omega, by omega⟩) (cwS 1 hts gX7_go_X7_isLetter rfl rfl rfl (by decide +kernel) ⟨Nat.le_of_ble_eq_true rfl, Nat.le_of_ble_eq_true rfl⟩) hK hNW hP rfl hl.1 rfl (Nat.le_of_ble_eq_true rfl) dX7_go_121 ⟨Nat.zero_le _, Nat.zero_le _⟩ ?_
            refine j_ifneB (tgt := 160) hx hb dX7_go_124 rfl (fun c124 => ?_) (fun c124 => ?_)
            · skip
              exact J160  ls H locs (by exact Or.inl c124)  (lv_sub hl [0, 1] rfl) hP hD hS
            · skip
              refine lv_iload_n hx hb dX7_go_127 rfl (lv_at hl 0 rfl) ?_
              refine CR_callS (As := [.int (iI (tape i))]) (rest := []) ⟨hx, hb, hml, hown, hts⟩ (c_X7_isDigit ⟨by omega, by omega⟩) (cwS 1 hts gX7_go_X7_isDigit rfl rfl rfl (by decide +kernel) ⟨Nat.le_of_ble_eq_true rfl, Nat.le_of_ble_eq_true rfl⟩) hK hNW hP rfl hl.1 rfl (Nat.le_of_ble_eq_true rfl) dX7_go_128 ⟨Nat.zero_le _, Nat.zero_le _⟩ ?_
              refine j_ifneB (tgt := 160) hx hb dX7_go_131 rfl (fun c131 => ?_) (fun c131 => ?_)
              · skip
                exact J160  ls H locs (by first | exact Or.inl c124 | exact Or.inr c131)  (lv_sub hl [0, 1] rfl) hP hD hS
              · skip
                have nr : ¬ isRn (tape i) := fun q => Or.elim q c124 c131
                refine lv_aload_n hx hb dX7_go_134 rfl (lv_at hl 1 rfl) ?_
                refine lv_iload_n hx hb dX7_go_135 rfl (lv_at hl 0 rfl) ?_
                refine lv_bipush (v := iI (59)) hx hb dX7_go_136 (by decide) ?_
                refine j_icmp_ne (tgt := 145) hx hb dX7_go_138 rfl ⟨by omega, by omega⟩ ⟨by decide, by decide⟩ (fun c138 => ?_) (fun c138 => ?_)
                · skip
                  refine lv_iconst (v := iI (1)) hx hb dX7_go_145 rfl ?_
                  refine va_put (D := D) (ci := 7) (v := .int (iI (1))) (ty := .int) (C := RX7) (T := TX7) (N := 23) hx hb hts (by decide +kernel) tyX7 tyX7_ok nmX7 hown hK hP hD hS 0 rfl rfl 6 (by decide) (hts (.fieldLink RX7 27 "BreakSetterModel" "sort" "I") (by decide +kernel)) (fun _ h9 => h9) rfl (by decide +kernel) rfl rfl (Nat.le_of_ble_eq_true rfl) dX7_go_146 (fun H locs hP hD hS => ?_)
                  have hP : va_P D vwCl (wT q C th ta fa sm tape now snaps wz zz i i 1 zn zh zg zk zl rd sa) H := hP
                  have hD : va_D A (wT q C th ta fa sm tape now snaps wz zz i i 1 zn zh zg zk zl rd sa) := hD
                  refine lv_aload_n hx hb dX7_go_149 rfl (lv_at hl 1 rfl) ?_
                  refine lv_dup hx hb dX7_go_150 rfl ?_
                  refine va_get (D := D) (ci := 7) (v := .int (iI (i))) (C := RX7) (T := TX7) (N := 23) hx hb hts (by decide +kernel) hown hK hP 0 rfl rfl 4 (by decide) (hts (.fieldLink RX7 21 "BreakSetterModel" "to" "I") (by decide +kernel)) (fun _ h9 => h9) rfl dX7_go_151 ?_
                  refine lv_iconst (v := iI (1)) hx hb dX7_go_154 rfl ?_
                  refine j_iadd hx hb dX7_go_155 ?_
                  refine va_put (D := D) (ci := 7) (v := .int (iI (i + 1))) (ty := .int) (C := RX7) (T := TX7) (N := 23) hx hb hts (by decide +kernel) tyX7 tyX7_ok nmX7 hown hK hP hD hS 0 rfl rfl 4 (by decide) (hts (.fieldLink RX7 21 "BreakSetterModel" "to" "I") (by decide +kernel)) (fun _ h9 => h9) rfl (by decide +kernel) rfl rfl (Nat.le_of_ble_eq_true rfl) dX7_go_156 (fun H locs hP hD hS => ?_)
                  have hP : va_P D vwCl (wT q C th ta fa sm tape now snaps wz zz (i + 1) i 1 zn zh zg zk zl rd sa) H := hP
                  have hD : va_D A (wT q C th ta fa sm tape now snaps wz zz (i + 1) i 1 zn zh zg zk zl rd sa) := hD
                  exact hret H locs ls 159 (i + 1, i, 1, zn, wz) dX7_go_159 (LA_mk (i := i) he hs (by omega) (by omega) (tkE_no (fun q => nr q.2)).symm (Or.inl ⟨tkK_x c138 nr, rfl⟩)) hP hD hS
                · skip
                  refine lv_iconst (v := iI (4)) hx hb dX7_go_141 rfl ?_
                  refine lv_goto (tgt := 146) hx hb dX7_go_142 rfl ?_
                  refine va_put (D := D) (ci := 7) (v := .int (iI (4))) (ty := .int) (C := RX7) (T := TX7) (N := 23) hx hb hts (by decide +kernel) tyX7 tyX7_ok nmX7 hown hK hP hD hS 0 rfl rfl 6 (by decide) (hts (.fieldLink RX7 27 "BreakSetterModel" "sort" "I") (by decide +kernel)) (fun _ h9 => h9) rfl (by decide +kernel) rfl rfl (Nat.le_of_ble_eq_true rfl) dX7_go_146 (fun H locs hP hD hS => ?_)
                  have hP : va_P D vwCl (wT q C th ta fa sm tape now snaps wz zz i i 4 zn zh zg zk zl rd sa) H := hP
                  have hD : va_D A (wT q C th ta fa sm tape now snaps wz zz i i 4 zn zh zg zk zl rd sa) := hD
                  refine lv_aload_n hx hb dX7_go_149 rfl (lv_at hl 1 rfl) ?_
                  refine lv_dup hx hb dX7_go_150 rfl ?_
                  refine va_get (D := D) (ci := 7) (v := .int (iI (i))) (C := RX7) (T := TX7) (N := 23) hx hb hts (by decide +kernel) hown hK hP 0 rfl rfl 4 (by decide) (hts (.fieldLink RX7 21 "BreakSetterModel" "to" "I") (by decide +kernel)) (fun _ h9 => h9) rfl dX7_go_151 ?_
                  refine lv_iconst (v := iI (1)) hx hb dX7_go_154 rfl ?_
                  refine j_iadd hx hb dX7_go_155 ?_
                  refine va_put (D := D) (ci := 7) (v := .int (iI (i + 1))) (ty := .int) (C := RX7) (T := TX7) (N := 23) hx hb hts (by decide +kernel) tyX7 tyX7_ok nmX7 hown hK hP hD hS 0 rfl rfl 4 (by decide) (hts (.fieldLink RX7 21 "BreakSetterModel" "to" "I") (by decide +kernel)) (fun _ h9 => h9) rfl (by decide +kernel) rfl rfl (Nat.le_of_ble_eq_true rfl) dX7_go_156 (fun H locs hP hD hS => ?_)
                  have hP : va_P D vwCl (wT q C th ta fa sm tape now snaps wz zz (i + 1) i 4 zn zh zg zk zl rd sa) H := hP
                  have hD : va_D A (wT q C th ta fa sm tape now snaps wz zz (i + 1) i 4 zn zh zg zk zl rd sa) := hD
                  exact hret H locs ls 159 (i + 1, i, 4, zn, wz) dX7_go_159 (LA_mk (i := i) he hs (by omega) (by omega) (tkE_no (fun q => nr q.2)).symm (Or.inr (Or.inr (Or.inr ⟨tkK_3 c138, rfl⟩)))) hP hD hS
          · skip
            refine lv_aload_n hx hb dX7_go_104 rfl (lv_at hl 0 rfl) ?_
            refine lv_iconst (v := iI (0)) hx hb dX7_go_105 rfl ?_
            refine va_put (D := D) (ci := 7) (v := .int (iI (0))) (ty := .int) (C := RX7) (T := TX7) (N := 23) hx hb hts (by decide +kernel) tyX7 tyX7_ok nmX7 hown hK hP hD hS 0 rfl rfl 6 (by decide) (hts (.fieldLink RX7 27 "BreakSetterModel" "sort" "I") (by decide +kernel)) (fun _ h9 => h9) rfl (by decide +kernel) rfl rfl (Nat.le_of_ble_eq_true rfl) dX7_go_106 (fun H locs hP hD hS => ?_)
            have hP : va_P D vwCl (wT q C th ta fa sm tape now snaps wz zz i i 0 zn zh zg zk zl rd sa) H := hP
            have hD : va_D A (wT q C th ta fa sm tape now snaps wz zz i i 0 zn zh zg zk zl rd sa) := hD
            exact hret H locs ls 109 (i, i, 0, zn, wz) dX7_go_109 ⟨he, Or.inl ⟨Or.inl (by rw [hs]; omega), Or.inr ⟨by omega, by show i = zz; omega, rfl⟩⟩⟩ hP hD hS
        refine lv_aload_n hx hb dX7_go_60 rfl (lv_at hl 0 rfl) ?_
        refine va_get (D := D) (ci := 7) (v := .int (iI (zz))) (C := RX7) (T := TX7) (N := 23) hx hb hts (by decide +kernel) hown hK hP 0 rfl rfl 3 (by decide) (hts (.fieldLink RX7 18 "BreakSetterModel" "size" "I") (by decide +kernel)) (fun _ h9 => h9) rfl dX7_go_61 ?_
        refine lv_sipush (v := iI (600)) hx hb dX7_go_64 (by decide) ?_
        refine j_icmp_le (tgt := 93) hx hb dX7_go_67 rfl ⟨by omega, by omega⟩ ⟨by decide, by decide⟩ (fun c67 => ?_) (fun c67 => ?_)
        · skip
          exact J93  ls H locs (by omega)  (lv_sub hl [0] rfl) hP hD hS
        · skip
          refine lv_aload_n hx hb dX7_go_70 rfl (lv_at hl 0 rfl) ?_
          refine va_get (D := D) (ci := 7) (v := .int (iI (i))) (C := RX7) (T := TX7) (N := 23) hx hb hts (by decide +kernel) hown hK hP 0 rfl rfl 5 (by decide) (hts (.fieldLink RX7 24 "BreakSetterModel" "from" "I") (by decide +kernel)) (fun _ h9 => h9) rfl dX7_go_71 ?_
          refine lv_sipush (v := iI (600)) hx hb dX7_go_74 (by decide) ?_
          refine j_icmp_lt (tgt := 93) hx hb dX7_go_77 rfl ⟨by omega, by omega⟩ ⟨by decide, by decide⟩ (fun c77 => ?_) (fun c77 => ?_)
          · skip
            exact J93  ls H locs (by omega)  (lv_sub hl [0] rfl) hP hD hS
          · skip
            refine lv_aload_n hx hb dX7_go_80 rfl (lv_at hl 0 rfl) ?_
            refine lv_sipush (v := iI (600)) hx hb dX7_go_81 (by decide) ?_
            refine va_put (D := D) (ci := 7) (v := .int (iI (600))) (ty := .int) (C := RX7) (T := TX7) (N := 23) hx hb hts (by decide +kernel) tyX7 tyX7_ok nmX7 hown hK hP hD hS 0 rfl rfl 5 (by decide) (hts (.fieldLink RX7 24 "BreakSetterModel" "from" "I") (by decide +kernel)) (fun _ h9 => h9) rfl (by decide +kernel) rfl rfl (Nat.le_of_ble_eq_true rfl) dX7_go_84 (fun H locs hP hD hS => ?_)
            have hP : va_P D vwCl (wT q C th ta fa sm tape now snaps wz zz i 600 zs zn zh zg zk zl rd sa) H := hP
            have hD : va_D A (wT q C th ta fa sm tape now snaps wz zz i 600 zs zn zh zg zk zl rd sa) := hD
            refine lv_aload_n hx hb dX7_go_87 rfl (lv_at hl 0 rfl) ?_
            refine lv_iconst (v := iI (1)) hx hb dX7_go_88 rfl ?_
            refine va_put (D := D) (ci := 7) (v := .int (iI (1))) (ty := .int) (C := RX7) (T := TX7) (N := 23) hx hb hts (by decide +kernel) tyX7 tyX7_ok nmX7 hown hK hP hD hS 0 rfl rfl 6 (by decide) (hts (.fieldLink RX7 27 "BreakSetterModel" "sort" "I") (by decide +kernel)) (fun _ h9 => h9) rfl (by decide +kernel) rfl rfl (Nat.le_of_ble_eq_true rfl) dX7_go_89 (fun H locs hP hD hS => ?_)
            have hP : va_P D vwCl (wT q C th ta fa sm tape now snaps wz zz i 600 1 zn zh zg zk zl rd sa) H := hP
            have hD : va_D A (wT q C th ta fa sm tape now snaps wz zz i 600 1 zn zh zg zk zl rd sa) := hD
            exact hret H locs ls 92 (i, 600, 1, zn, wz) dX7_go_92 ⟨he, Or.inl ⟨Or.inr (by rw [hs]; omega), Or.inl ⟨by omega, rfl, rfl⟩⟩⟩ hP hD hS
      refine lv_aload_n hx hb dX7_go_0 rfl (lv_at hl 0 rfl) ?_
      refine va_get (D := D) (ci := 7) (v := .int (iI (i))) (C := RX7) (T := TX7) (N := 23) hx hb hts (by decide +kernel) hown hK hP 0 rfl rfl 4 (by decide) (hts (.fieldLink RX7 21 "BreakSetterModel" "to" "I") (by decide +kernel)) (fun _ h9 => h9) rfl dX7_go_1 ?_
      refine lv_aload_n hx hb dX7_go_4 rfl (lv_at hl 0 rfl) ?_
      refine va_get (D := D) (ci := 7) (v := .int (iI (zz))) (C := RX7) (T := TX7) (N := 23) hx hb hts (by decide +kernel) hown hK hP 0 rfl rfl 3 (by decide) (hts (.fieldLink RX7 18 "BreakSetterModel" "size" "I") (by decide +kernel)) (fun _ h9 => h9) rfl dX7_go_5 ?_
      refine j_icmp_ge (tgt := 52) hx hb dX7_go_8 rfl ⟨by omega, by omega⟩ ⟨by omega, by omega⟩ (fun c8 => ?_) (fun c8 => ?_)
      · skip
        exact J52  ls H locs (by show skp isBl tape zz zt = i; rw [← i2]; exact skp_e (fun q => by omega))  (lv_sub hl [0] rfl) hP hD hS
      · skip
        have tb := hb9 i (by omega) (by omega)
        refine lv_aload_n hx hb dX7_go_11 rfl (lv_at hl 0 rfl) ?_
        refine va_get (D := D) (ci := 7) (v := .ref (q 37)) (C := RX7) (T := TX7) (N := 23) hx hb hts (by decide +kernel) hown hK hP 0 rfl rfl 1 (by decide) (hts (.fieldLink RX7 7 "BreakSetterModel" "tape" "[I") (by decide +kernel)) (fun _ h9 => h9) rfl dX7_go_12 ?_
        refine lv_aload_n hx hb dX7_go_15 rfl (lv_at hl 0 rfl) ?_
        refine va_get (D := D) (ci := 7) (v := .int (iI (i))) (C := RX7) (T := TX7) (N := 23) hx hb hts (by decide +kernel) hown hK hP 0 rfl rfl 4 (by decide) (hts (.fieldLink RX7 21 "BreakSetterModel" "to" "I") (by decide +kernel)) (fun _ h9 => h9) rfl dX7_go_16 ?_
        refine j_iald hx hb hK hP 1 1 rfl rfl ⟨by omega, by omega⟩ (Nat.le_of_ble_eq_true rfl) dX7_go_19 ?_
        refine lv_bipush (v := iI (32)) hx hb dX7_go_20 (by decide) ?_
        refine j_icmp_eq (tgt := 39) hx hb dX7_go_22 rfl ⟨by omega, by omega⟩ ⟨by decide, by decide⟩ (fun c22 => ?_) (fun c22 => ?_)
        · skip
          have bl : isBl (tape i) := by first | exact Or.inl c22 | exact Or.inr c36
          refine lv_aload_n hx hb dX7_go_39 rfl (lv_at hl 0 rfl) ?_
          refine lv_dup hx hb dX7_go_40 rfl ?_
          refine va_get (D := D) (ci := 7) (v := .int (iI (i))) (C := RX7) (T := TX7) (N := 23) hx hb hts (by decide +kernel) hown hK hP 0 rfl rfl 4 (by decide) (hts (.fieldLink RX7 21 "BreakSetterModel" "to" "I") (by decide +kernel)) (fun _ h9 => h9) rfl dX7_go_41 ?_
          refine lv_iconst (v := iI (1)) hx hb dX7_go_44 rfl ?_
          refine j_iadd hx hb dX7_go_45 ?_
          refine va_put (D := D) (ci := 7) (v := .int (iI (i + 1))) (ty := .int) (C := RX7) (T := TX7) (N := 23) hx hb hts (by decide +kernel) tyX7 tyX7_ok nmX7 hown hK hP hD hS 0 rfl rfl 4 (by decide) (hts (.fieldLink RX7 21 "BreakSetterModel" "to" "I") (by decide +kernel)) (fun _ h9 => h9) rfl (by decide +kernel) rfl rfl (Nat.le_of_ble_eq_true rfl) dX7_go_46 (fun H locs hP hD hS => ?_)
          have hP : va_P D vwCl (wT q C th ta fa sm tape now snaps wz zz (i + 1) zf zs zn zh zg zk zl rd sa) H := hP
          have hD : va_D A (wT q C th ta fa sm tape now snaps wz zz (i + 1) zf zs zn zh zg zk zl rd sa) := hD
          refine lv_goto (tgt := 0) hx hb dX7_go_49 rfl ?_
          exact ih0 (i + 1) ls H locs (by omega) (by rw [← skp_s (by omega) bl]; exact i2) (by omega) (lv_sub hl [0] rfl) hP hD hS
        · skip
          refine lv_aload_n hx hb dX7_go_25 rfl (lv_at hl 0 rfl) ?_
          refine va_get (D := D) (ci := 7) (v := .ref (q 37)) (C := RX7) (T := TX7) (N := 23) hx hb hts (by decide +kernel) hown hK hP 0 rfl rfl 1 (by decide) (hts (.fieldLink RX7 7 "BreakSetterModel" "tape" "[I") (by decide +kernel)) (fun _ h9 => h9) rfl dX7_go_26 ?_
          refine lv_aload_n hx hb dX7_go_29 rfl (lv_at hl 0 rfl) ?_
          refine va_get (D := D) (ci := 7) (v := .int (iI (i))) (C := RX7) (T := TX7) (N := 23) hx hb hts (by decide +kernel) hown hK hP 0 rfl rfl 4 (by decide) (hts (.fieldLink RX7 21 "BreakSetterModel" "to" "I") (by decide +kernel)) (fun _ h9 => h9) rfl dX7_go_30 ?_
          refine j_iald hx hb hK hP 1 1 rfl rfl ⟨by omega, by omega⟩ (Nat.le_of_ble_eq_true rfl) dX7_go_33 ?_
          refine lv_bipush (v := iI (10)) hx hb dX7_go_34 (by decide) ?_
          refine j_icmp_ne (tgt := 52) hx hb dX7_go_36 rfl ⟨by omega, by omega⟩ ⟨by decide, by decide⟩ (fun c36 => ?_) (fun c36 => ?_)
          · skip
            exact J52  ls H locs (by show skp isBl tape zz zt = i; rw [← i2]; exact skp_e (fun q => by first | omega | exact Or.elim q.2 c22 c36))  (lv_sub hl [0] rfl) hP hD hS
          · skip
            have bl : isBl (tape i) := by first | exact Or.inl c22 | exact Or.inr c36
            refine lv_aload_n hx hb dX7_go_39 rfl (lv_at hl 0 rfl) ?_
            refine lv_dup hx hb dX7_go_40 rfl ?_
            refine va_get (D := D) (ci := 7) (v := .int (iI (i))) (C := RX7) (T := TX7) (N := 23) hx hb hts (by decide +kernel) hown hK hP 0 rfl rfl 4 (by decide) (hts (.fieldLink RX7 21 "BreakSetterModel" "to" "I") (by decide +kernel)) (fun _ h9 => h9) rfl dX7_go_41 ?_
            refine lv_iconst (v := iI (1)) hx hb dX7_go_44 rfl ?_
            refine j_iadd hx hb dX7_go_45 ?_
            refine va_put (D := D) (ci := 7) (v := .int (iI (i + 1))) (ty := .int) (C := RX7) (T := TX7) (N := 23) hx hb hts (by decide +kernel) tyX7 tyX7_ok nmX7 hown hK hP hD hS 0 rfl rfl 4 (by decide) (hts (.fieldLink RX7 21 "BreakSetterModel" "to" "I") (by decide +kernel)) (fun _ h9 => h9) rfl (by decide +kernel) rfl rfl (Nat.le_of_ble_eq_true rfl) dX7_go_46 (fun H locs hP hD hS => ?_)
            have hP : va_P D vwCl (wT q C th ta fa sm tape now snaps wz zz (i + 1) zf zs zn zh zg zk zl rd sa) H := hP
            have hD : va_D A (wT q C th ta fa sm tape now snaps wz zz (i + 1) zf zs zn zh zg zk zl rd sa) := hD
            refine lv_goto (tgt := 0) hx hb dX7_go_49 rfl ?_
            exact ih0 (i + 1) ls H locs (by omega) (by rw [← skp_s (by omega) bl]; exact i2) (by omega) (lv_sub hl [0] rfl) hP hD hS
  exact L0 _ zt ls s.heap [] (by omega) rfl (Nat.lt_succ_self _) (lv_sub hl [0] rfl) hP hD hS

set_option maxHeartbeats 4000000 in
set_option maxRecDepth 100000 in
theorem c_X7_two {l : Launch} {D : va_G} {C : Nat → ClassId} {w : va_W} {aa bb : Int} (haa : R32 aa) (hbb : R32 bb) : CR l yX7_two wsX7_two 0 0 D C [.int (iI (aa)), .int (iI (bb))] (w) (.long (lI (27 * (aa - 96) + bb - 96))) := by
  refine CRL_of (cc := cX7_two) (maxL := 2) (by decide) rfl (Nat.le_of_ble_eq_true rfl) ?_
  intro p e s m below meth c Q ls hx hb hml hown hts hK hNW hl hP hret
  have hl : lv_has ls 2 [(0, .int (iI (aa))), (1, .int (iI (bb)))] := hl
  refine lv_ldc2 (v := 27) hx hb hown (hts (.constantLong RX7 48 (27)) (by decide +kernel)) dX7_two_0 ?_
  refine W_wenL (y := lI (27)) lI_27 ?_
  refine lv_iload_n hx hb dX7_two_3 rfl (lv_at hl 0 rfl) ?_
  refine j_i2l hx hb dX7_two_4 haa ?_
  refine lv_ldc2 (v := 96) hx hb hown (hts (.constantLong RX7 50 (96)) (by decide +kernel)) dX7_two_5 ?_
  refine W_wenL (y := lI (96)) lI_96 ?_
  refine j_lsub hx hb dX7_two_8 ?_
  refine j_lmul hx hb dX7_two_9 ?_
  refine lv_iload_n hx hb dX7_two_10 rfl (lv_at hl 1 rfl) ?_
  refine j_i2l hx hb dX7_two_11 hbb ?_
  refine j_ladd hx hb dX7_two_12 ?_
  refine lv_ldc2 (v := 96) hx hb hown (hts (.constantLong RX7 50 (96)) (by decide +kernel)) dX7_two_13 ?_
  refine W_wenL (y := lI (96)) lI_96 ?_
  refine j_lsub hx hb dX7_two_16 ?_
  exact hret ls 17 _ dX7_two_17 (congrArg lI (by omega))

set_option maxHeartbeats 4000000 in
set_option maxRecDepth 100000 in
theorem c_X7_four {l : Launch} {D : va_G} {C : Nat → ClassId} {w : va_W} {aa bb cc0 dd : Int} (haa : R32 aa) (hbb : R32 bb) (hcc0 : R32 cc0) (hdd : R32 dd) : CR l yX7_four wsX7_four 1 21 D C [.int (iI (aa)), .int (iI (bb)), .int (iI (cc0)), .int (iI (dd))] (w) (.long (lI (729 * (27 * (aa - 96) + bb - 96) + (27 * (cc0 - 96) + dd - 96)))) := by
  refine CRL_of (cc := cX7_four) (maxL := 4) (by decide) rfl (Nat.le_of_ble_eq_true rfl) ?_
  intro p e s m below meth c Q ls hx hb hml hown hts hK hNW hl hP hret
  have hl : lv_has ls 4 [(0, .int (iI (aa))), (1, .int (iI (bb))), (2, .int (iI (cc0))), (3, .int (iI (dd)))] := hl
  refine lv_ldc2 (v := 729) hx hb hown (hts (.constantLong RX7 52 (729)) (by decide +kernel)) dX7_four_0 ?_
  refine W_wenL (y := lI (729)) lI_729 ?_
  refine lv_iload_n hx hb dX7_four_3 rfl (lv_at hl 0 rfl) ?_
  refine lv_iload_n hx hb dX7_four_4 rfl (lv_at hl 1 rfl) ?_
  refine CR_callS (As := [.int (iI (aa)), .int (iI (bb))]) (rest := [.long (lI (729))]) ⟨hx, hb, hml, hown, hts⟩ (c_X7_two haa hbb) (cwS 2 hts gX7_four_X7_two rfl rfl rfl (by decide +kernel) ⟨Nat.le_of_ble_eq_true rfl, Nat.le_of_ble_eq_true rfl⟩) hK hNW hP rfl hl.1 rfl (Nat.le_of_ble_eq_true rfl) dX7_four_5 ⟨Nat.zero_le _, Nat.zero_le _⟩ ?_
  refine j_lmul hx hb dX7_four_8 ?_
  refine lv_iload_n hx hb dX7_four_9 rfl (lv_at hl 2 rfl) ?_
  refine lv_iload_n hx hb dX7_four_10 rfl (lv_at hl 3 rfl) ?_
  refine CR_callS (As := [.int (iI (cc0)), .int (iI (dd))]) (rest := [.long (lI (729 * (27 * (aa - 96) + bb - 96)))]) ⟨hx, hb, hml, hown, hts⟩ (c_X7_two hcc0 hdd) (cwS 2 hts gX7_four_X7_two rfl rfl rfl (by decide +kernel) ⟨Nat.le_of_ble_eq_true rfl, Nat.le_of_ble_eq_true rfl⟩) hK hNW hP rfl hl.1 rfl (Nat.le_of_ble_eq_true rfl) dX7_four_11 ⟨Nat.zero_le _, Nat.zero_le _⟩ ?_
  refine j_ladd hx hb dX7_four_14 ?_
  exact hret ls 15 _ dX7_four_15 (congrArg lI (by omega))

set_option maxHeartbeats 4000000 in
set_option maxRecDepth 100000 in
theorem c_X7_five {l : Launch} {D : va_G} {C : Nat → ClassId} {w : va_W} {aa bb cc0 dd ee : Int} (haa : R32 aa) (hbb : R32 bb) (hcc0 : R32 cc0) (hdd : R32 dd) (hee : R32 ee) : CR l yX7_five wsX7_five 2 44 D C [.int (iI (aa)), .int (iI (bb)), .int (iI (cc0)), .int (iI (dd)), .int (iI (ee))] (w) (.long (lI (27 * (729 * (27 * (aa - 96) + bb - 96) + (27 * (cc0 - 96) + dd - 96)) + ee - 96))) := by
  refine CRL_of (cc := cX7_five) (maxL := 5) (by decide) rfl (Nat.le_of_ble_eq_true rfl) ?_
  intro p e s m below meth c Q ls hx hb hml hown hts hK hNW hl hP hret
  have hl : lv_has ls 5 [(0, .int (iI (aa))), (1, .int (iI (bb))), (2, .int (iI (cc0))), (3, .int (iI (dd))), (4, .int (iI (ee)))] := hl
  refine lv_ldc2 (v := 27) hx hb hown (hts (.constantLong RX7 48 (27)) (by decide +kernel)) dX7_five_0 ?_
  refine W_wenL (y := lI (27)) lI_27 ?_
  refine lv_iload_n hx hb dX7_five_3 rfl (lv_at hl 0 rfl) ?_
  refine lv_iload_n hx hb dX7_five_4 rfl (lv_at hl 1 rfl) ?_
  refine lv_iload_n hx hb dX7_five_5 rfl (lv_at hl 2 rfl) ?_
  refine lv_iload_n hx hb dX7_five_6 rfl (lv_at hl 3 rfl) ?_
  refine CR_callS (As := [.int (iI (aa)), .int (iI (bb)), .int (iI (cc0)), .int (iI (dd))]) (rest := [.long (lI (27))]) ⟨hx, hb, hml, hown, hts⟩ (c_X7_four haa hbb hcc0 hdd) (cwS 4 hts gX7_five_X7_four rfl rfl rfl (by decide +kernel) ⟨Nat.le_of_ble_eq_true rfl, Nat.le_of_ble_eq_true rfl⟩) hK hNW hP rfl hl.1 rfl (Nat.le_of_ble_eq_true rfl) dX7_five_7 ⟨Nat.zero_le _, Nat.zero_le _⟩ ?_
  refine j_lmul hx hb dX7_five_10 ?_
  refine lv_iload hx hb dX7_five_11 (lv_at hl 4 rfl) ?_
  refine j_i2l hx hb dX7_five_13 hee ?_
  refine j_ladd hx hb dX7_five_14 ?_
  refine lv_ldc2 (v := 96) hx hb hown (hts (.constantLong RX7 50 (96)) (by decide +kernel)) dX7_five_15 ?_
  refine W_wenL (y := lI (96)) lI_96 ?_
  refine j_lsub hx hb dX7_five_18 ?_
  exact hret ls 19 _ dX7_five_19 (congrArg lI (by omega))

set_option maxHeartbeats 4000000 in
set_option maxRecDepth 100000 in
theorem c_X7_isWord {l : Launch} {D : va_G} {C : Nat → ClassId} {q : Nat → Nat} {th ta fa sm : Int} {tape now snaps : Int → Int} {wz zz zt zf zs zn zh zg zk zl : Int} {rd : Int → Int} {sa : Nat → Int → Int} {ww : Int} (hzs : 0 ≤ zs ∧ zs ≤ 4) (hwz : zs = 2 → 0 ≤ wz ∧ wz < 400000000) (hww : R64 ww) : CR l yX7_isWord wsX7_isWord 0 0 D C [.ref (q 36), .long (lI (ww))] (wT q C th ta fa sm tape now snaps wz zz zt zf zs zn zh zg zk zl rd sa) (.int (iI (bI (zs = 2 ∧ wz = ww)))) := by
  refine CRZ_of (cc := cX7_isWord) (maxL := 3) (by decide) rfl (Nat.le_of_ble_eq_true rfl) (bI_01 _) ?_
  intro p e s m below meth c Q ls hx hb hml hown hts hK hNW hl hP hret
  have hl : lv_has ls 3 [(0, .ref (q 36)), (1, .long (lI (ww)))] := hl
  refine lv_aload_n hx hb dX7_isWord_0 rfl (lv_at hl 0 rfl) ?_
  refine va_get (D := D) (ci := 7) (v := .int (iI (zs))) (C := RX7) (T := TX7) (N := 23) hx hb hts (by decide +kernel) hown hK hP 0 rfl rfl 6 (by decide) (hts (.fieldLink RX7 27 "BreakSetterModel" "sort" "I") (by decide +kernel)) (fun _ h9 => h9) rfl dX7_isWord_1 ?_
  refine lv_iconst (v := iI (2)) hx hb dX7_isWord_4 rfl ?_
  refine j_icmp_ne (tgt := 21) hx hb dX7_isWord_5 rfl ⟨by omega, by omega⟩ ⟨by decide, by decide⟩ (fun c5 => ?_) (fun c5 => ?_)
  · skip
    refine lv_iconst (v := iI (0)) hx hb dX7_isWord_21 rfl ?_
    exact hret ls 22 _ dX7_isWord_22 (by (rw [bI_f (fun q => c5 q.1)]; done))
  · skip
    refine lv_aload_n hx hb dX7_isWord_8 rfl (lv_at hl 0 rfl) ?_
    refine va_get (D := D) (ci := 7) (v := .long (lI (wz))) (C := RX7) (T := TX7) (N := 23) hx hb hts (by decide +kernel) hown hK hP 0 rfl rfl 10 (by decide) (hts (.fieldLink RX7 37 "BreakSetterModel" "word" "J") (by decide +kernel)) (fun _ h9 => h9) rfl dX7_isWord_9 ?_
    refine lv_lload_n hx hb dX7_isWord_12 rfl (lv_at hl 1 rfl) ?_
    refine j_lcmp hx hb dX7_isWord_13 (by have z9 := hwz c5; exact ⟨by omega, by omega⟩) hww ?_
    refine j_if_ne (tgt := 21) hx hb dX7_isWord_14 rfl (lgz_R _ _) (fun c14 => ?_) (fun c14 => ?_)
    · skip
      refine lv_iconst (v := iI (0)) hx hb dX7_isWord_21 rfl ?_
      exact hret ls 22 _ dX7_isWord_22 (by first | (rw [bI_f (fun q => c14 (lgz_0.mpr q.2))]; done) | (rw [bI_f (fun q => c5 q.1)]; done))
    · skip
      refine lv_iconst (v := iI (1)) hx hb dX7_isWord_17 rfl ?_
      refine lv_goto (tgt := 22) hx hb dX7_isWord_18 rfl ?_
      exact hret ls 22 _ dX7_isWord_22 (by rw [bI_t ⟨c5, lgz_0.mp c14⟩])

set_option maxHeartbeats 4000000 in
set_option maxRecDepth 100000 in
theorem c_X7_bad {l : Launch} {D : va_G} {C : Nat → ClassId} {q : Nat → Nat} {th ta fa sm : Int} {tape now snaps : Int → Int} {wz zz zt zf zs zn zh zg zk zl : Int} {rd : Int → Int} {sa : Nat → Int → Int} {ww : Int} (hzs : 0 ≤ zs ∧ zs ≤ 4) : CI (S := Int) l yX7_bad wsX7_bad 0 0 D C [.ref (q 36), .int (iI (ww))] (wT q C th ta fa sm tape now snaps wz zz zt zf zs zn zh zg zk zl rd sa) (fun u => wT q C th ta u sm tape now snaps wz zz zt zf zs zn zf zg zk zl rd sa) (fun r u => r = iI 0 ∧ u = if zs = 1 then 1 else ww) := by
  refine CZ_of (cc := cX7_bad) (maxL := 2) (by decide) rfl (Nat.le_of_ble_eq_true rfl) ?_
  intro p e s m below meth c A Q ls hx hb hml hown hts hK hNW hA hl hP hD hS hret
  have hl : lv_has ls 2 [(0, .ref (q 36)), (1, .int (iI (ww)))] := hl
  refine lv_aload_n hx hb dX7_bad_0 rfl (lv_at hl 0 rfl) ?_
  refine lv_aload_n hx hb dX7_bad_1 rfl (lv_at hl 0 rfl) ?_
  refine va_get (D := D) (ci := 7) (v := .int (iI (zs))) (C := RX7) (T := TX7) (N := 23) hx hb hts (by decide +kernel) hown hK hP 0 rfl rfl 6 (by decide) (hts (.fieldLink RX7 27 "BreakSetterModel" "sort" "I") (by decide +kernel)) (fun _ h9 => h9) rfl dX7_bad_2 ?_
  refine lv_iconst (v := iI (1)) hx hb dX7_bad_5 rfl ?_
  refine j_icmp_ne (tgt := 13) hx hb dX7_bad_6 rfl ⟨by omega, by omega⟩ ⟨by decide, by decide⟩ (fun c6 => ?_) (fun c6 => ?_)
  · skip
    refine lv_iload_n hx hb dX7_bad_13 rfl (lv_at hl 1 rfl) ?_
    refine va_put (D := D) (ci := 7) (v := .int (iI (ww))) (ty := .int) (C := RX7) (T := TX7) (N := 23) hx hb hts (by decide +kernel) tyX7 tyX7_ok nmX7 hown hK hP hD hS 0 rfl rfl 8 (by decide) (hts (.fieldLink RX7 62 "BreakSetterModel" "fault" "I") (by decide +kernel)) (fun _ h9 => h9) rfl (by decide +kernel) rfl rfl (Nat.le_of_ble_eq_true rfl) dX7_bad_14 (fun H locs hP hD hS => ?_)
    have hP : va_P D vwCl (wT q C th ta ww sm tape now snaps wz zz zt zf zs zn zh zg zk zl rd sa) H := hP
    have hD : va_D A (wT q C th ta ww sm tape now snaps wz zz zt zf zs zn zh zg zk zl rd sa) := hD
    refine lv_aload_n hx hb dX7_bad_17 rfl (lv_at hl 0 rfl) ?_
    refine lv_aload_n hx hb dX7_bad_18 rfl (lv_at hl 0 rfl) ?_
    refine va_get (D := D) (ci := 7) (v := .int (iI (zf))) (C := RX7) (T := TX7) (N := 23) hx hb hts (by decide +kernel) hown hK hP 0 rfl rfl 5 (by decide) (hts (.fieldLink RX7 24 "BreakSetterModel" "from" "I") (by decide +kernel)) (fun _ h9 => h9) rfl dX7_bad_19 ?_
    refine va_put (D := D) (ci := 7) (v := .int (iI (zf))) (ty := .int) (C := RX7) (T := TX7) (N := 23) hx hb hts (by decide +kernel) tyX7 tyX7_ok nmX7 hown hK hP hD hS 0 rfl rfl 9 (by decide) (hts (.fieldLink RX7 65 "BreakSetterModel" "where" "I") (by decide +kernel)) (fun _ h9 => h9) rfl (by decide +kernel) rfl rfl (Nat.le_of_ble_eq_true rfl) dX7_bad_22 (fun H locs hP hD hS => ?_)
    have hP : va_P D vwCl (wT q C th ta ww sm tape now snaps wz zz zt zf zs zn zf zg zk zl rd sa) H := hP
    have hD : va_D A (wT q C th ta ww sm tape now snaps wz zz zt zf zs zn zf zg zk zl rd sa) := hD
    refine lv_iconst (v := iI (0)) hx hb dX7_bad_25 rfl ?_
    exact hret H locs ls 26 _ ww dX7_bad_26 (Or.inl rfl) ⟨rfl, by first | (rw [if_pos c6]; done) | (rw [if_neg c6]; done)⟩ hP hD hS
  · skip
    refine lv_iconst (v := iI (1)) hx hb dX7_bad_9 rfl ?_
    refine lv_goto (tgt := 14) hx hb dX7_bad_10 rfl ?_
    refine va_put (D := D) (ci := 7) (v := .int (iI (1))) (ty := .int) (C := RX7) (T := TX7) (N := 23) hx hb hts (by decide +kernel) tyX7 tyX7_ok nmX7 hown hK hP hD hS 0 rfl rfl 8 (by decide) (hts (.fieldLink RX7 62 "BreakSetterModel" "fault" "I") (by decide +kernel)) (fun _ h9 => h9) rfl (by decide +kernel) rfl rfl (Nat.le_of_ble_eq_true rfl) dX7_bad_14 (fun H locs hP hD hS => ?_)
    have hP : va_P D vwCl (wT q C th ta 1 sm tape now snaps wz zz zt zf zs zn zh zg zk zl rd sa) H := hP
    have hD : va_D A (wT q C th ta 1 sm tape now snaps wz zz zt zf zs zn zh zg zk zl rd sa) := hD
    refine lv_aload_n hx hb dX7_bad_17 rfl (lv_at hl 0 rfl) ?_
    refine lv_aload_n hx hb dX7_bad_18 rfl (lv_at hl 0 rfl) ?_
    refine va_get (D := D) (ci := 7) (v := .int (iI (zf))) (C := RX7) (T := TX7) (N := 23) hx hb hts (by decide +kernel) hown hK hP 0 rfl rfl 5 (by decide) (hts (.fieldLink RX7 24 "BreakSetterModel" "from" "I") (by decide +kernel)) (fun _ h9 => h9) rfl dX7_bad_19 ?_
    refine va_put (D := D) (ci := 7) (v := .int (iI (zf))) (ty := .int) (C := RX7) (T := TX7) (N := 23) hx hb hts (by decide +kernel) tyX7 tyX7_ok nmX7 hown hK hP hD hS 0 rfl rfl 9 (by decide) (hts (.fieldLink RX7 65 "BreakSetterModel" "where" "I") (by decide +kernel)) (fun _ h9 => h9) rfl (by decide +kernel) rfl rfl (Nat.le_of_ble_eq_true rfl) dX7_bad_22 (fun H locs hP hD hS => ?_)
    have hP : va_P D vwCl (wT q C th ta 1 sm tape now snaps wz zz zt zf zs zn zf zg zk zl rd sa) H := hP
    have hD : va_D A (wT q C th ta 1 sm tape now snaps wz zz zt zf zs zn zf zg zk zl rd sa) := hD
    refine lv_iconst (v := iI (0)) hx hb dX7_bad_25 rfl ?_
    exact hret H locs ls 26 _ 1 dX7_bad_26 (Or.inl rfl) ⟨rfl, by first | (rw [if_pos c6]; done) | (rw [if_neg c6]; done)⟩ hP hD hS

set_option maxHeartbeats 4000000 in
set_option maxRecDepth 100000 in
theorem c_X7_takes {l : Launch} {D : va_G} {C : Nat → ClassId} {q : Nat → Nat} {th ta fa sm : Int} {tape now snaps : Int → Int} {wz zz zt zf zs zn zh zg zk zl : Int} {rd : Int → Int} {sa : Nat → Int → Int} (hb9 : ∀ k : Int, 0 ≤ k → k < 640 → 0 ≤ tape k ∧ tape k < 256) (hz : 0 ≤ zz ∧ zz ≤ 640) {e0 : Int} (hLA : LA tape zz e0 zt zf zs zn wz) {σ : PS} (h5 : 5 ≤ σ.1) {aa bb : Int} (hlo : loS σ = aa) (hhi : hiS σ = bb) (ha : R32 aa) (hbb : R32 bb) : CI (S := Int × Int × Int × Int × Int × Int × Int × Int) l yX7_takes wsX7_takes 2 45 D C [.ref (q 36), .int (iI (aa)), .int (iI (bb))] (wT q C th ta fa sm tape now snaps wz zz zt zf zs zn zh zg zk zl rd sa) (fun u => wT q C th ta (u.2.2.2.2.2.2.1) sm tape now snaps (u.2.2.2.2.1) zz (u.1) (u.2.1) (u.2.2.1) (u.2.2.2.1) (u.2.2.2.2.2.2.2) (u.2.2.2.2.2.1) zk zl rd sa) (fun r u => ∃ z : Int, r = iI z ∧ TP tape zz σ e0 zt zn aa bb fa z (u.1) (u.2.1) (u.2.2.1) (u.2.2.2.1) (u.2.2.2.2.1) (u.2.2.2.2.2.1) (u.2.2.2.2.2.2.1) (u.2.2.2.2.2.2.2)) := by
  refine CZ_of (cc := cX7_takes) (maxL := 3) (by decide) rfl (Nat.le_of_ble_eq_true rfl) ?_
  intro p e s m below meth c A Q ls hx hb hml hown hts hK hNW hA hl hP hD hS hret
  have hl : lv_has ls 3 [(0, .ref (q 36)), (1, .int (iI (aa))), (2, .int (iI (bb)))] := hl
  have hq0 := LA_zs hLA
  have ln := LA_nums hLA h5
  refine lv_aload_n hx hb dX7_takes_0 rfl (lv_at hl 0 rfl) ?_
  refine va_get (D := D) (ci := 7) (v := .int (iI (zs))) (C := RX7) (T := TX7) (N := 23) hx hb hts (by decide +kernel) hown hK hP 0 rfl rfl 6 (by decide) (hts (.fieldLink RX7 27 "BreakSetterModel" "sort" "I") (by decide +kernel)) (fun _ h9 => h9) rfl dX7_takes_1 ?_
  refine lv_iconst (v := iI (3)) hx hb dX7_takes_4 rfl ?_
  refine j_icmp_eq (tgt := 14) hx hb dX7_takes_5 rfl ⟨by omega, by omega⟩ ⟨by decide, by decide⟩ (fun c5 => ?_) (fun c5 => ?_)
  · skip
    have nr := LA_zn hLA c5
    have zr := LA_zt hLA (by omega)
    refine lv_aload_n hx hb dX7_takes_14 rfl (lv_at hl 0 rfl) ?_
    refine va_get (D := D) (ci := 7) (v := .int (iI (zn))) (C := RX7) (T := TX7) (N := 23) hx hb hts (by decide +kernel) hown hK hP 0 rfl rfl 7 (by decide) (hts (.fieldLink RX7 41 "BreakSetterModel" "number" "I") (by decide +kernel)) (fun _ h9 => h9) rfl dX7_takes_15 ?_
    refine lv_iload_n hx hb dX7_takes_18 rfl (lv_at hl 1 rfl) ?_
    refine lv_iload_n hx hb dX7_takes_19 rfl (lv_at hl 2 rfl) ?_
    refine CR_callS (As := [.int (iI (zn)), .int (iI (aa)), .int (iI (bb))]) (rest := []) ⟨hx, hb, hml, hown, hts⟩ (c_X7_isIn ⟨by omega, by omega⟩ ha hbb) (cwS 3 hts gX7_takes_X7_isIn rfl rfl rfl (by decide +kernel) ⟨Nat.le_of_ble_eq_true rfl, Nat.le_of_ble_eq_true rfl⟩) hK hNW hP rfl hl.1 rfl (Nat.le_of_ble_eq_true rfl) dX7_takes_20 ⟨Nat.zero_le _, Nat.zero_le _⟩ ?_
    refine j_ifneB (tgt := 32) hx hb dX7_takes_23 rfl (fun c23 => ?_) (fun c23 => ?_)
    · skip
      refine lv_aload_n hx hb dX7_takes_32 rfl (lv_at hl 0 rfl) ?_
      refine lv_aload_n hx hb dX7_takes_33 rfl (lv_at hl 0 rfl) ?_
      refine va_get (D := D) (ci := 7) (v := .int (iI (zn))) (C := RX7) (T := TX7) (N := 23) hx hb hts (by decide +kernel) hown hK hP 0 rfl rfl 7 (by decide) (hts (.fieldLink RX7 41 "BreakSetterModel" "number" "I") (by decide +kernel)) (fun _ h9 => h9) rfl dX7_takes_34 ?_
      refine va_put (D := D) (ci := 7) (v := .int (iI (zn))) (ty := .int) (C := RX7) (T := TX7) (N := 23) hx hb hts (by decide +kernel) tyX7 tyX7_ok nmX7 hown hK hP hD hS 0 rfl rfl 15 (by decide) (hts (.fieldLink RX7 106 "BreakSetterModel" "got" "I") (by decide +kernel)) (fun _ h9 => h9) rfl (by decide +kernel) rfl rfl (Nat.le_of_ble_eq_true rfl) dX7_takes_37 (fun H locs hP hD hS => ?_)
      have hP : va_P D vwCl (wT q C th ta fa sm tape now snaps wz zz zt zf zs zn zh zn zk zl rd sa) H := hP
      have hD : va_D A (wT q C th ta fa sm tape now snaps wz zz zt zf zs zn zh zn zk zl rd sa) := hD
      refine lv_aload_n hx hb dX7_takes_40 rfl (lv_at hl 0 rfl) ?_
      refine CV_callV0 (As := []) (rest := []) ⟨hx, hb, hml, hown, hts⟩ (c_X7_go hb9 hz ⟨by omega, by omega⟩) (cwV 0 hts gX7_takes_X7_go rfl rfl rfl (by decide +kernel) ⟨Nat.le_of_ble_eq_true rfl, Nat.le_of_ble_eq_true rfl⟩) (q0 := 0) rfl rfl rfl hK hNW hP hD hS hA rfl hl.1 rfl (Nat.le_of_ble_eq_true rfl) dX7_takes_41 ⟨Nat.zero_le _, Nat.zero_le _⟩ (fun ⟨t41, f41, s41, n41, w41⟩ H locs hw9 hP hD hS => ?_)
      have hP : va_P D vwCl (wT q C th ta fa sm tape now snaps w41 zz t41 f41 s41 n41 zh zn zk zl rd sa) H := hP
      have hD : va_D A (wT q C th ta fa sm tape now snaps w41 zz t41 f41 s41 n41 zh zn zk zl rd sa) := hD
      have hLA41 : LA tape zz zt t41 f41 s41 n41 w41 := hw9
      have hq41 := LA_zs hLA41
      refine lv_iconst (v := iI (1)) hx hb dX7_takes_44 rfl ?_
      exact hret H locs ls 45 _ (t41, f41, s41, n41, w41, zn, fa, zh) dX7_takes_45 (Or.inr rfl) ⟨1, rfl, Or.inr ⟨rfl, rfl, c23.1, c23.2, rfl, hLA41, zr.2.2, ln.2.2 c5 (by rw [hlo, hhi]; omega)⟩⟩ hP hD hS
    · skip
      refine lv_aload_n hx hb dX7_takes_26 rfl (lv_at hl 0 rfl) ?_
      refine lv_iconst (v := iI (2)) hx hb dX7_takes_27 rfl ?_
      refine CI_callV0 (As := [.int (iI (2))]) (rest := []) ⟨hx, hb, hml, hown, hts⟩ (c_X7_bad ⟨by omega, by omega⟩) (cwV 1 hts gX7_takes_X7_bad rfl rfl rfl (by decide +kernel) ⟨Nat.le_of_ble_eq_true rfl, Nat.le_of_ble_eq_true rfl⟩) (q0 := 0) rfl rfl rfl hK hNW hP hD hS hA rfl hl.1 rfl (Nat.le_of_ble_eq_true rfl) dX7_takes_28 ⟨Nat.zero_le _, Nat.zero_le _⟩ (fun r b28 H locs hw9 hP hD hS => ?_)
      obtain ⟨hr9, hb28⟩ := hw9
      subst hr9
      have hP : va_P D vwCl (wT q C th ta b28 sm tape now snaps wz zz zt zf zs zn zf zg zk zl rd sa) H := hP
      have hD : va_D A (wT q C th ta b28 sm tape now snaps wz zz zt zf zs zn zf zg zk zl rd sa) := hD
      exact hret H locs ls 31 _ (zt, zf, zs, zn, wz, zg, b28, zf) dX7_takes_31 (Or.inl rfl) ⟨0, rfl, Or.inl ⟨rfl, by show _ = Sum.inl (b28, zf); rw [hb28, if_neg (by omega)]; exact ln.2.1 c5 (by rw [hlo, hhi]; omega)⟩⟩ hP hD hS
  · skip
    refine lv_aload_n hx hb dX7_takes_8 rfl (lv_at hl 0 rfl) ?_
    refine lv_iconst (v := iI (1)) hx hb dX7_takes_9 rfl ?_
    refine CI_callV0 (As := [.int (iI (1))]) (rest := []) ⟨hx, hb, hml, hown, hts⟩ (c_X7_bad ⟨by omega, by omega⟩) (cwV 1 hts gX7_takes_X7_bad rfl rfl rfl (by decide +kernel) ⟨Nat.le_of_ble_eq_true rfl, Nat.le_of_ble_eq_true rfl⟩) (q0 := 0) rfl rfl rfl hK hNW hP hD hS hA rfl hl.1 rfl (Nat.le_of_ble_eq_true rfl) dX7_takes_10 ⟨Nat.zero_le _, Nat.zero_le _⟩ (fun r b10 H locs hw9 hP hD hS => ?_)
    obtain ⟨hr9, hb10⟩ := hw9
    subst hr9
    have hP : va_P D vwCl (wT q C th ta b10 sm tape now snaps wz zz zt zf zs zn zf zg zk zl rd sa) H := hP
    have hD : va_D A (wT q C th ta b10 sm tape now snaps wz zz zt zf zs zn zf zg zk zl rd sa) := hD
    exact hret H locs ls 13 _ (zt, zf, zs, zn, wz, zg, b10, zf) dX7_takes_13 (Or.inl rfl) ⟨0, rfl, Or.inl ⟨rfl, by show _ = Sum.inl (b10, zf); rw [hb10, ite_self]; exact ln.1 c5⟩⟩ hP hD hS

set_option maxHeartbeats 4000000 in
set_option maxRecDepth 100000 in
theorem c_X7_told {l : Launch} {D : va_G} {C : Nat → ClassId} {q : Nat → Nat} {th ta fa sm : Int} {tape now snaps : Int → Int} {wz zz zt zf zs zn zh zg zk zl : Int} {rd : Int → Int} {sa : Nat → Int → Int} (hb9 : ∀ k : Int, 0 ≤ k → k < 640 → 0 ≤ tape k ∧ tape k < 256) (hz : 0 ≤ zz ∧ zz ≤ 640) {e0 : Int} (hLA : LA tape zz e0 zt zf zs zn wz) {σ : PS} (h5 : 5 ≤ σ.1) {kk aa bb : Int} (hlo : loS σ = aa) (hhi : hiS σ = bb) (ha : R32 aa) (hbb : R32 bb) (hk : 0 ≤ kk ∧ kk < 308) : CI (S := Int × Int × Int × Int × Int × Int × Int × Int × (Int → Int)) l yX7_told wsX7_told 3 67 D C [.ref (q 36), .int (iI (kk)), .int (iI (aa)), .int (iI (bb))] (wT q C th ta fa sm tape now snaps wz zz zt zf zs zn zh zg zk zl rd sa) (fun u => wT q C th ta (u.2.2.2.2.2.2.1) sm tape now snaps (u.2.2.2.2.1) zz (u.1) (u.2.1) (u.2.2.1) (u.2.2.2.1) (u.2.2.2.2.2.2.2.1) (u.2.2.2.2.2.1) zk zl (u.2.2.2.2.2.2.2.2) sa) (fun r u => ∃ z : Int, r = iI z ∧ TP tape zz σ e0 zt zn aa bb fa z (u.1) (u.2.1) (u.2.2.1) (u.2.2.2.1) (u.2.2.2.2.1) (u.2.2.2.2.2.1) (u.2.2.2.2.2.2.1) (u.2.2.2.2.2.2.2.1) ∧ (z = 1 → u.2.2.2.2.2.2.2.2 = up rd kk zn)) := by
  refine CZ_of (cc := cX7_told) (maxL := 4) (by decide) rfl (Nat.le_of_ble_eq_true rfl) ?_
  intro p e s m below meth c A Q ls hx hb hml hown hts hK hNW hA hl hP hD hS hret
  have hl : lv_has ls 4 [(0, .ref (q 36)), (1, .int (iI (kk))), (2, .int (iI (aa))), (3, .int (iI (bb)))] := hl
  refine lv_aload_n hx hb dX7_told_0 rfl (lv_at hl 0 rfl) ?_
  refine lv_iload_n hx hb dX7_told_1 rfl (lv_at hl 2 rfl) ?_
  refine lv_iload_n hx hb dX7_told_2 rfl (lv_at hl 3 rfl) ?_
  refine CI_callV0 (As := [.int (iI (aa)), .int (iI (bb))]) (rest := []) ⟨hx, hb, hml, hown, hts⟩ (c_X7_takes (σ := σ) hb9 hz hLA h5 hlo hhi ha hbb) (cwV 2 hts gX7_told_X7_takes rfl rfl rfl (by decide +kernel) ⟨Nat.le_of_ble_eq_true rfl, Nat.le_of_ble_eq_true rfl⟩) (q0 := 0) rfl rfl rfl hK hNW hP hD hS hA rfl hl.1 rfl (Nat.le_of_ble_eq_true rfl) dX7_told_3 ⟨Nat.zero_le _, Nat.zero_le _⟩ (fun r ⟨t3, f3, s3, n3, w3, g3, fa3, zh3⟩ H locs hw9 hP hD hS => ?_)
  obtain ⟨z3, hr9, hw9⟩ := hw9
  subst hr9
  have hz3 : TP tape zz σ e0 zt zn aa bb fa z3 t3 f3 s3 n3 w3 g3 fa3 zh3 := hw9
  have zb3 : z3 = 0 ∨ z3 = 1 := hz3.elim (fun z => Or.inl z.1) (fun z => Or.inr z.1)
  have hP : va_P D vwCl (wT q C th ta fa3 sm tape now snaps w3 zz t3 f3 s3 n3 zh3 g3 zk zl rd sa) H := hP
  have hD : va_D A (wT q C th ta fa3 sm tape now snaps w3 zz t3 f3 s3 n3 zh3 g3 zk zl rd sa) := hD
  refine j_if_ne (tgt := 11) hx hb dX7_told_6 rfl ⟨by omega, by omega⟩ (fun c6 => ?_) (fun c6 => ?_)
  · skip
    have ok := (hz3.resolve_left (fun z => c6 z.1)).2
    refine lv_aload_n hx hb dX7_told_11 rfl (lv_at hl 0 rfl) ?_
    refine va_get (D := D) (ci := 7) (v := .ref (q 39)) (C := RX7) (T := TX7) (N := 23) hx hb hts (by decide +kernel) hown hK hP 0 rfl rfl 12 (by decide) (hts (.fieldLink RX7 77 "BreakSetterModel" "read" "[I") (by decide +kernel)) (fun _ h9 => h9) rfl dX7_told_12 ?_
    refine lv_iload_n hx hb dX7_told_15 rfl (lv_at hl 1 rfl) ?_
    refine lv_aload_n hx hb dX7_told_16 rfl (lv_at hl 0 rfl) ?_
    refine va_get (D := D) (ci := 7) (v := .int (iI (g3))) (C := RX7) (T := TX7) (N := 23) hx hb hts (by decide +kernel) hown hK hP 0 rfl rfl 15 (by decide) (hts (.fieldLink RX7 106 "BreakSetterModel" "got" "I") (by decide +kernel)) (fun _ h9 => h9) rfl dX7_told_17 ?_
    refine j_iast hx hb hK hP hD hS 3 1 rfl rfl ⟨by omega, by omega⟩ (Nat.le_of_ble_eq_true rfl) dX7_told_20 (fun H locs hP hD hS => ?_)
    have hP : va_P D vwCl (wT q C th ta fa3 sm tape now snaps w3 zz t3 f3 s3 n3 zh3 g3 zk zl (up rd kk g3) sa) H := hP
    have hD : va_D A (wT q C th ta fa3 sm tape now snaps w3 zz t3 f3 s3 n3 zh3 g3 zk zl (up rd kk g3) sa) := hD
    refine lv_iconst (v := iI (1)) hx hb dX7_told_21 rfl ?_
    exact hret H locs ls 22 _ (t3, f3, s3, n3, w3, g3, fa3, zh3, up rd kk g3) dX7_told_22 (Or.inr rfl) ⟨1, rfl, Or.inr ⟨rfl, ok⟩, fun _ => by show up rd kk g3 = up rd kk zn; rw [ok.1]⟩ hP hD hS
  · skip
    have no := (hz3.resolve_right (fun z => by have := z.1; omega)).2
    refine lv_iconst (v := iI (0)) hx hb dX7_told_9 rfl ?_
    exact hret H locs ls 10 _ (t3, f3, s3, n3, w3, g3, fa3, zh3, rd) dX7_told_10 (Or.inl rfl) ⟨0, rfl, Or.inl ⟨rfl, no⟩, fun z => by omega⟩ hP hD hS

set_option maxHeartbeats 4000000 in
set_option maxRecDepth 100000 in
theorem c_X7_readEnd {l : Launch} {D : va_G} {C : Nat → ClassId} {q : Nat → Nat} {th ta fa sm : Int} {tape now snaps : Int → Int} {wz zz zt zf zs zn zh zg zk zl : Int} {rd : Int → Int} {sa : Nat → Int → Int} (hb9 : ∀ k : Int, 0 ≤ k → k < 640 → 0 ≤ tape k ∧ tape k < 256) (hz : 0 ≤ zz ∧ zz ≤ 640) {e0 : Int} (hLA : LA tape zz e0 zt zf zs zn wz) {sq si spo sfr sto sln sea snd sli : Int} {sg : Int → Int} (hq : sq = 4 ∨ sq = 3) (hw : sq = 3 → ¬ (zs = 2 ∧ wz = 8538566)) : CI (S := Int × Int × Int × Int × Int × Int × Int) l yX7_readEnd wsX7_readEnd 2 45 D C [.ref (q 36)] (wT q C th ta fa sm tape now snaps wz zz zt zf zs zn zh zg zk zl rd sa) (fun u => wT q C th ta (u.2.2.2.2.2.1) sm tape now snaps (u.2.2.2.2.1) zz (u.1) (u.2.1) (u.2.2.1) (u.2.2.2.1) (u.2.2.2.2.2.2) zg zk zl rd sa) (fun r u => ∃ z : Int, r = iI z ∧ EP tape zz (sq, si, spo, sfr, sto, sln, sea, snd, sli, sg) e0 zt fa z (u.1) (u.2.1) (u.2.2.1) (u.2.2.2.1) (u.2.2.2.2.1) (u.2.2.2.2.2.1) (u.2.2.2.2.2.2) (if si = 1 then 2 else 1, si, spo, sfr, sto, sln, sea, snd, sli + 1, if si = 1 then up sg 2 (sg 2 + 1) else sg)) := by
  refine CZ_of (cc := cX7_readEnd) (maxL := 1) (by decide) rfl (Nat.le_of_ble_eq_true rfl) ?_
  intro p e s m below meth c A Q ls hx hb hml hown hts hK hNW hA hl hP hD hS hret
  have hl : lv_has ls 1 [(0, .ref (q 36))] := hl
  have hq0 := LA_zs hLA
  have ln := LA_sgn (ins := si) (po := spo) (fr := sfr) (to := sto) (ln := sln) (ea := sea) (nds := snd) (li := sli) (g := sg) hLA hq hw
  refine lv_aload_n hx hb dX7_readEnd_0 rfl (lv_at hl 0 rfl) ?_
  refine va_get (D := D) (ci := 7) (v := .int (iI (zs))) (C := RX7) (T := TX7) (N := 23) hx hb hts (by decide +kernel) hown hK hP 0 rfl rfl 6 (by decide) (hts (.fieldLink RX7 27 "BreakSetterModel" "sort" "I") (by decide +kernel)) (fun _ h9 => h9) rfl dX7_readEnd_1 ?_
  refine lv_iconst (v := iI (4)) hx hb dX7_readEnd_4 rfl ?_
  refine j_icmp_eq (tgt := 14) hx hb dX7_readEnd_5 rfl ⟨by omega, by omega⟩ ⟨by decide, by decide⟩ (fun c5 => ?_) (fun c5 => ?_)
  · skip
    have zr := LA_zt hLA (by omega)
    refine lv_aload_n hx hb dX7_readEnd_14 rfl (lv_at hl 0 rfl) ?_
    refine CV_callV0 (As := []) (rest := []) ⟨hx, hb, hml, hown, hts⟩ (c_X7_go hb9 hz ⟨by omega, by omega⟩) (cwV 0 hts gX7_readEnd_X7_go rfl rfl rfl (by decide +kernel) ⟨Nat.le_of_ble_eq_true rfl, Nat.le_of_ble_eq_true rfl⟩) (q0 := 0) rfl rfl rfl hK hNW hP hD hS hA rfl hl.1 rfl (Nat.le_of_ble_eq_true rfl) dX7_readEnd_15 ⟨Nat.zero_le _, Nat.zero_le _⟩ (fun ⟨t15, f15, s15, n15, w15⟩ H locs hw9 hP hD hS => ?_)
    have hP : va_P D vwCl (wT q C th ta fa sm tape now snaps w15 zz t15 f15 s15 n15 zh zg zk zl rd sa) H := hP
    have hD : va_D A (wT q C th ta fa sm tape now snaps w15 zz t15 f15 s15 n15 zh zg zk zl rd sa) := hD
    have hLA15 : LA tape zz zt t15 f15 s15 n15 w15 := hw9
    have hq15 := LA_zs hLA15
    refine lv_iconst (v := iI (1)) hx hb dX7_readEnd_18 rfl ?_
    exact hret H locs ls 19 _ (t15, f15, s15, n15, w15, fa, zh) dX7_readEnd_19 (Or.inr rfl) ⟨1, rfl, Or.inr ⟨rfl, rfl, hLA15, zr.2.2, ln.2 c5⟩⟩ hP hD hS
  · skip
    refine lv_aload_n hx hb dX7_readEnd_8 rfl (lv_at hl 0 rfl) ?_
    refine lv_iconst (v := iI (1)) hx hb dX7_readEnd_9 rfl ?_
    refine CI_callV0 (As := [.int (iI (1))]) (rest := []) ⟨hx, hb, hml, hown, hts⟩ (c_X7_bad ⟨by omega, by omega⟩) (cwV 1 hts gX7_readEnd_X7_bad rfl rfl rfl (by decide +kernel) ⟨Nat.le_of_ble_eq_true rfl, Nat.le_of_ble_eq_true rfl⟩) (q0 := 0) rfl rfl rfl hK hNW hP hD hS hA rfl hl.1 rfl (Nat.le_of_ble_eq_true rfl) dX7_readEnd_10 ⟨Nat.zero_le _, Nat.zero_le _⟩ (fun r b10 H locs hw9 hP hD hS => ?_)
    obtain ⟨hr9, hb10⟩ := hw9
    subst hr9
    have hP : va_P D vwCl (wT q C th ta b10 sm tape now snaps wz zz zt zf zs zn zf zg zk zl rd sa) H := hP
    have hD : va_D A (wT q C th ta b10 sm tape now snaps wz zz zt zf zs zn zf zg zk zl rd sa) := hD
    exact hret H locs ls 13 _ (zt, zf, zs, zn, wz, b10, zf) dX7_readEnd_13 (Or.inl rfl) ⟨0, rfl, Or.inl ⟨rfl, by show _ = Sum.inl (b10, zf); rw [hb10, ite_self]; exact ln.1 c5⟩⟩ hP hD hS
