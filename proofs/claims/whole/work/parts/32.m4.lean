/-- the reference's object, its row and its helps in a world -/
def HN (q : Nat → Nat) (C : Nat → ClassId) (w : va_W) (g hl : Int → Int) : Prop := ∃ (k0 k1 k2 : Nat) (fs : List Value), w[k0]? = some (q 36, .inr (7, fs)) ∧ fs[11]? = some (.ref (q 38)) ∧ w[k1]? = some (q 38, .inl (C 1, 308, .inl (aI g))) ∧ fs[22]? = some (.ref (q 45)) ∧ w[k2]? = some (q 45, .inl (C 1, 147, .inl (aI hl)))
theorem HN_MN {q : Nat → Nat} {C : Nat → ClassId} {w : va_W} {g hl : Int → Int} (h : HN q C w g hl) : MN q C w g := by
  obtain ⟨k36, k38, k45, fs, h36, f11, h38, f22, h45⟩ := h
  exact ⟨k36, k38, fs, h36, f11, h38⟩
theorem HP_dn {N t : Int} {h : Int → Int} {V : Int → Int → Int} (H2 : ∀ p x : Int, 0 ≤ p → p < N → t < x → x ≤ 48 → h (49 * p + x) = V p x) (H3 : ∀ p : Int, 0 ≤ p → p < N → h (49 * p + t) = V p t) : ∀ p x : Int, 0 ≤ p → p < N → t + (-1) < x → x ≤ 48 → h (49 * p + x) = V p x := fun p x a b c d => by
  by_cases e : x = t
  · rw [e]; exact H3 p a b
  · exact H2 p x a b (by omega) d
def sa5 (sa : Nat → Int → Int) (hl : Int → Int) : Nat → Int → Int := fun k => if k = 5 then hl else sa k
theorem HN_wM {q : Nat → Nat} {C : Nat → ClassId} {th ta fa sm : Int} {tape now snaps : Int → Int} {wo : Int64} {sc : Nat → Int} {sa : Nat → Int → Int} {hl : Int → Int} : HN q C (wM q C th ta fa sm tape now snaps wo sc (sa5 sa hl)) now hl := ⟨0, 2, 9, _, rfl, rfl, rfl, rfl, rfl⟩
theorem wkn_zero {V : Int → Int → Int} {p t : Int} {s : Int × Int} (h : ∀ x : Int, V x t = 0) (hs : 0 ≤ s.1) : ∀ {n : Nat}, wkn V p t s n = s
  | 0 => rfl
  | n + 1 => by
    show wk1 V p t (wkn V p t s n) n = s
    rw [wkn_zero h hs (n := n)]
    unfold wk1
    rw [if_neg (fun q => by have := h n; omega)]
theorem sty_nn {g : Int → Int} (h : Wf g) {p t : Int} (h0 : 0 ≤ t) (h1 : t < 48) : 0 ≤ sty g p t := by
  have a := hlp_rng g p t
  have b := Vf_r h (p := p) (t := t + 1) (by omega)
  unfold sty
  omega
theorem wkn_rng {g : Int → Int} (h : Wf g) {p t : Int} (h0 : 0 ≤ t) (h1 : t < 48) : ∀ n : Nat, 0 ≤ (wkn (Vf g) p (t + g 1) (sty g p t, p) n).1 ∧ (wkn (Vf g) p (t + g 1) (sty g p t, p) n).1 ≤ 60
  | 0 => by
    have a := hlp_rng g p t
    have b := Vf_r h (p := p) (t := t + 1) (by omega)
    show 0 ≤ sty g p t ∧ sty g p t ≤ 60
    unfold sty
    omega
  | n + 1 => by
    have ih := wkn_rng h (p := p) h0 h1 n
    have w := Wf_n h
    have b := Vf_r h (p := (n : Int)) (t := t + g 1) (by omega)
    show 0 ≤ (wk1 _ _ _ _ _).1 ∧ (wk1 _ _ _ _ _).1 ≤ 60
    unfold wk1
    by_cases c : ¬ (n : Int) = p ∧ (wkn (Vf g) p (t + g 1) (sty g p t, p) n).1 < Vf g n (t + g 1)
    · rw [if_pos c]
      show 0 ≤ Vf g n (t + g 1) ∧ Vf g n (t + g 1) ≤ 60
      omega
    · rw [if_neg c]; exact ih
set_option maxHeartbeats 4000000 in
set_option maxRecDepth 100000 in
theorem c_X7_helpsAt {l : Launch} {D : va_G} {C : Nat → ClassId} {q : Nat → Nat} {w : va_W} {g hq : Int → Int} (hh : HN q C w g hq) (hg : Wf g) {pp tt : Int} (hp : 0 ≤ pp ∧ pp < 3) (ht : 0 ≤ tt ∧ tt < 48) : CR l yX7_helpsAt wsX7_helpsAt 5 112 D C [.ref (q 36), .int (iI (pp)), .int (iI (tt))] (w) (.int (iI (hlp g pp tt))) := by
  obtain ⟨k36, k38, k45, fs, h36, f11, h38, f22, h45⟩ := id hh
  refine CR_of (cc := cX7_helpsAt) (maxL := 3) (by decide) rfl (Nat.le_of_ble_eq_true rfl) ?_
  intro p e s m below meth c Q ls hx hb hml hown hts hK hNW hl hP hret
  have hl : lv_has ls 3 [(0, .ref (q 36)), (1, .int (iI (pp))), (2, .int (iI (tt)))] := hl
  have b := sh_rng hg hp.1 hp.2 ht.1 ht.2
  refine lv_aload_n hx hb dX7_helpsAt_0 rfl (lv_at hl 0 rfl) ?_
  refine lv_iload_n hx hb dX7_helpsAt_1 rfl (lv_at hl 1 rfl) ?_
  refine lv_iload_n hx hb dX7_helpsAt_2 rfl (lv_at hl 2 rfl) ?_
  refine CR_callV (As := [.int (iI (pp)), .int (iI (tt))]) (rest := []) ⟨hx, hb, hml, hown, hts⟩ (c_X7_shortOf (HN_MN hh) hg (by omega) (by omega)) (cwV 2 hts gX7_helpsAt_X7_shortOf rfl rfl rfl (by decide +kernel) ⟨Nat.le_of_ble_eq_true rfl, Nat.le_of_ble_eq_true rfl⟩) (q0 := k36) h36 rfl rfl hK hNW hP rfl hl.1 rfl (Nat.le_of_ble_eq_true rfl) dX7_helpsAt_3 ⟨Nat.zero_le _, Nat.zero_le _⟩ ?_
  refine j_if_le (tgt := 13) hx hb dX7_helpsAt_6 rfl ⟨by omega, by omega⟩ (fun c6 => ?_) (fun c6 => ?_)
  · skip
    refine lv_iconst (v := iI (0)) hx hb dX7_helpsAt_13 rfl ?_
    exact hret ls 14 _ dX7_helpsAt_14 (by rw [show hlp g pp tt = 0 from bI_f (by omega)])
  · skip
    refine lv_iconst (v := iI (1)) hx hb dX7_helpsAt_9 rfl ?_
    refine lv_goto (tgt := 14) hx hb dX7_helpsAt_10 rfl ?_
    exact hret ls 14 _ dX7_helpsAt_14 (by rw [show hlp g pp tt = 1 from bI_t (by omega)])

set_option maxHeartbeats 4000000 in
set_option maxRecDepth 100000 in
theorem c_X7_stays {l : Launch} {D : va_G} {C : Nat → ClassId} {q : Nat → Nat} {w : va_W} {g hq : Int → Int} (hh : HN q C w g hq) (hg : Wf g) {pp tt : Int} (hp : 0 ≤ pp ∧ pp < 3) (ht : 0 ≤ tt ∧ tt < 48) (hr : ∀ k : Int, 0 ≤ k → k < 147 → True) : CR l yX7_stays wsX7_stays 6 134 D C [.ref (q 36), .int (iI (pp)), .int (iI (tt))] (w) (.int (iI (hlp g pp tt + hq (49 * pp + tt + 1)))) := by
  obtain ⟨k36, k38, k45, fs, h36, f11, h38, f22, h45⟩ := id hh
  refine CR_of (cc := cX7_stays) (maxL := 3) (by decide) rfl (Nat.le_of_ble_eq_true rfl) ?_
  intro p e s m below meth c Q ls hx hb hml hown hts hK hNW hl hP hret
  have hl : lv_has ls 3 [(0, .ref (q 36)), (1, .int (iI (pp))), (2, .int (iI (tt)))] := hl
  refine lv_aload_n hx hb dX7_stays_0 rfl (lv_at hl 0 rfl) ?_
  refine lv_iload_n hx hb dX7_stays_1 rfl (lv_at hl 1 rfl) ?_
  refine lv_iload_n hx hb dX7_stays_2 rfl (lv_at hl 2 rfl) ?_
  refine CR_callV (As := [.int (iI (pp)), .int (iI (tt))]) (rest := []) ⟨hx, hb, hml, hown, hts⟩ (c_X7_helpsAt hh hg (by omega) (by omega)) (cwV 2 hts gX7_stays_X7_helpsAt rfl rfl rfl (by decide +kernel) ⟨Nat.le_of_ble_eq_true rfl, Nat.le_of_ble_eq_true rfl⟩) (q0 := k36) h36 rfl rfl hK hNW hP rfl hl.1 rfl (Nat.le_of_ble_eq_true rfl) dX7_stays_3 ⟨Nat.zero_le _, Nat.zero_le _⟩ ?_
  refine lv_aload_n hx hb dX7_stays_6 rfl (lv_at hl 0 rfl) ?_
  refine va_get (D := D) (ci := 7) (v := .ref (q 45)) (C := RX7) (T := TX7) (N := 23) hx hb hts (by decide +kernel) hown hK hP k36 h36 rfl 22 (by decide) (hts (.fieldLink RX7 96 "BreakSetterModel" "helps" "[I") (by decide +kernel)) (fun _ h9 => h9) f22 dX7_stays_7 ?_
  refine lv_bipush (v := iI (49)) hx hb dX7_stays_10 (by decide) ?_
  refine lv_iload_n hx hb dX7_stays_12 rfl (lv_at hl 1 rfl) ?_
  refine j_imul hx hb dX7_stays_13 ?_
  refine lv_iload_n hx hb dX7_stays_14 rfl (lv_at hl 2 rfl) ?_
  refine j_iadd hx hb dX7_stays_15 ?_
  refine lv_iconst (v := iI (1)) hx hb dX7_stays_16 rfl ?_
  refine j_iadd hx hb dX7_stays_17 ?_
  refine j_iald hx hb hK hP k45 1 h45 rfl ⟨by omega, by omega⟩ (Nat.le_of_ble_eq_true rfl) dX7_stays_18 ?_
  refine j_iadd hx hb dX7_stays_19 ?_
  exact hret ls 20 _ dX7_stays_20 rfl

set_option maxHeartbeats 4000000 in
set_option maxRecDepth 100000 in
theorem c_X7_laysHelps {l : Launch} {D : va_G} {C : Nat → ClassId} {q : Nat → Nat} {th ta fa sm : Int} {tape now snaps : Int → Int} {wo : Int64} {sc : Nat → Int} {sa : Nat → Int → Int} {hq : Int → Int} (hg : Wf now) : CV (S := Int → Int) l yX7_laysHelps wsX7_laysHelps 7 156 D C [.ref (q 36)] (wM q C th ta fa sm tape now snaps wo sc (sa5 sa hq)) (fun u => wM q C th ta fa sm tape now snaps wo sc (sa5 sa u)) (fun u => ∀ p x : Int, 0 ≤ p → p < now 0 → 0 ≤ x → x ≤ 48 → u (49 * p + x) = Vf now p x) := by
  refine CV_of (cc := cX7_laysHelps) (maxL := 5) (by decide) rfl (Nat.le_of_ble_eq_true rfl) ?_
  intro p e s m below meth c A Q ls hx hb hml hown hts hK hNW hA hl hP hD hS hret
  have hl : lv_has ls 5 [(0, .ref (q 36))] := hl
  have n := Wf_n hg
  refine lv_iconst (v := iI (0)) hx hb dX7_laysHelps_0 rfl ?_
  refine lv_istore_n (lv' := [(1, .int (iI (0))), (0, .ref (q 36))]) hx hb dX7_laysHelps_1 rfl hl (by decide) rfl (fun ls hl => ?_)
  have L2 : ∀ (n : Nat) (i : Int) (h1 : Int → Int) (ls : Array Slot) (H : Heap) (locs : List Loc), (0 ≤ i ∧ i ≤ 3) → (∀ p : Int, 0 ≤ p → p < i → h1 (49 * p + 48) = 0) → ((3 - i).toNat < n) → (lv_has ls 5 [(1, .int (iI (i))), (0, .ref (q 36))]) → (va_P D vwCl (wM q C th ta fa sm tape now snaps wo sc (sa5 sa h1)) H) → (va_D A (wM q C th ta fa sm tape now snaps wo sc (sa5 sa h1))) → (va_S A s.heap H locs) → W p l e (rmN 7 156) s m ([.ref (q 36)] : List Value).toArray below meth c H locs 0 0 Q (F0 m 2 ls []) := by
    intro n
    induction n with
    | zero => intro i h1 ls H locs i1 i2 hn; exact absurd hn (Nat.not_lt_zero _)
    | succ n ih2 =>
      intro i h1 ls H locs i1 i2 hn hl hP hD hS
      have hn2 := hn
      refine lv_iload_n hx hb dX7_laysHelps_2 rfl (lv_at hl 0 rfl) ?_
      refine lv_iconst (v := iI (3)) hx hb dX7_laysHelps_3 rfl ?_
      refine j_icmp_ge (tgt := 26) hx hb dX7_laysHelps_4 rfl ⟨by omega, by omega⟩ ⟨by decide, by decide⟩ (fun c4 => ?_) (fun c4 => ?_)
      · skip
        refine lv_bipush (v := iI (47)) hx hb dX7_laysHelps_26 (by decide) ?_
        refine lv_istore_n (lv' := [(1, .int (iI (47))), (0, .ref (q 36))]) hx hb dX7_laysHelps_28 rfl hl (by decide) rfl (fun ls hl => ?_)
        have L29 : ∀ (n : Nat) (t : Int) (h2 : Int → Int) (ls : Array Slot) (H : Heap) (locs : List Loc), (-1 ≤ t ∧ t ≤ 47) → ((∀ p x : Int, 0 ≤ p → p < now 0 → t < x → x ≤ 48 → h2 (49 * p + x) = Vf now p x)) → ((t + 1).toNat < n) → (lv_has ls 5 [(1, .int (iI (t))), (0, .ref (q 36))]) → (va_P D vwCl (wM q C th ta fa sm tape now snaps wo sc (sa5 sa h2)) H) → (va_D A (wM q C th ta fa sm tape now snaps wo sc (sa5 sa h2))) → (va_S A s.heap H locs) → W p l e (rmN 7 156) s m ([.ref (q 36)] : List Value).toArray below meth c H locs 0 0 Q (F0 m 29 ls []) := by
          intro n
          induction n with
          | zero => intro t h2 ls H locs t1 H2 hn; exact absurd hn (Nat.not_lt_zero _)
          | succ n ih29 =>
            intro t h2 ls H locs t1 H2 hn hl hP hD hS
            have hn29 := hn
            refine lv_iload_n hx hb dX7_laysHelps_29 rfl (lv_at hl 0 rfl) ?_
            refine j_if_lt (tgt := 158) hx hb dX7_laysHelps_30 rfl ⟨by omega, by omega⟩ (fun c30 => ?_) (fun c30 => ?_)
            · skip
              exact hret H locs ls 158 h2 dX7_laysHelps_158 (fun p x a b c d => H2 p x a b (by omega) d) hP hD hS
            · skip
              refine lv_iconst (v := iI (0)) hx hb dX7_laysHelps_33 rfl ?_
              refine lv_istore_n (lv' := [(2, .int (iI (0))), (1, .int (iI (t))), (0, .ref (q 36))]) hx hb dX7_laysHelps_34 rfl hl (by decide) rfl (fun ls hl => ?_)
              have L35 : ∀ (n : Nat) (p0 : Int) (h3 : Int → Int) (ls : Array Slot) (H : Heap) (locs : List Loc), (0 ≤ p0 ∧ p0 ≤ now 0) → ((∀ p x : Int, 0 ≤ p → p < now 0 → t < x → x ≤ 48 → h3 (49 * p + x) = Vf now p x)) → (∀ p : Int, 0 ≤ p → p < p0 → h3 (49 * p + t) = Vf now p t) → ((now 0 - p0).toNat < n) → (lv_has ls 5 [(2, .int (iI (p0))), (1, .int (iI (t))), (0, .ref (q 36))]) → (va_P D vwCl (wM q C th ta fa sm tape now snaps wo sc (sa5 sa h3)) H) → (va_D A (wM q C th ta fa sm tape now snaps wo sc (sa5 sa h3))) → (va_S A s.heap H locs) → W p l e (rmN 7 156) s m ([.ref (q 36)] : List Value).toArray below meth c H locs 0 0 Q (F0 m 35 ls []) := by
                intro n
                induction n with
                | zero => intro p0 h3 ls H locs p1 H2 H3 hn; exact absurd hn (Nat.not_lt_zero _)
                | succ n ih35 =>
                  intro p0 h3 ls H locs p1 H2 H3 hn hl hP hD hS
                  have hn35 := hn
                  refine lv_iload_n hx hb dX7_laysHelps_35 rfl (lv_at hl 0 rfl) ?_
                  refine lv_aload_n hx hb dX7_laysHelps_36 rfl (lv_at hl 2 rfl) ?_
                  refine va_get (D := D) (ci := 7) (v := .ref (q 38)) (C := RX7) (T := TX7) (N := 23) hx hb hts (by decide +kernel) hown hK hP 0 rfl rfl 11 (by decide) (hts (.fieldLink RX7 74 "BreakSetterModel" "now" "[I") (by decide +kernel)) (fun _ h9 => h9) rfl dX7_laysHelps_37 ?_
                  refine lv_iconst (v := iI (0)) hx hb dX7_laysHelps_40 rfl ?_
                  refine j_iald hx hb hK hP 2 1 rfl rfl ⟨by omega, by omega⟩ (Nat.le_of_ble_eq_true rfl) dX7_laysHelps_41 ?_
                  refine j_icmp_ge (tgt := 152) hx hb dX7_laysHelps_42 rfl ⟨by omega, by omega⟩ ⟨by omega, by omega⟩ (fun c42 => ?_) (fun c42 => ?_)
                  · skip
                    refine j_iinc (k := 1) (lv' := [(1, .int (iI (t + (-1)))), (2, .int (iI (p0))), (0, .ref (q 36))]) hx hb dX7_laysHelps_152 hl rfl (by decide) rfl (fun ls hl => ?_)
                    refine lv_goto (tgt := 29) hx hb dX7_laysHelps_155 rfl ?_
                    exact ih29 (t + (-1)) h3 ls H locs (by omega) (HP_dn (V := Vf now) H2 (fun p a b => H3 p a (by omega))) (by omega) (lv_sub hl [0, 2] rfl) hP hD hS
                  · skip
                    refine lv_aload_n hx hb dX7_laysHelps_45 rfl (lv_at hl 2 rfl) ?_
                    refine lv_iload_n hx hb dX7_laysHelps_46 rfl (lv_at hl 0 rfl) ?_
                    refine lv_iload_n hx hb dX7_laysHelps_47 rfl (lv_at hl 1 rfl) ?_
                    refine CR_callV (As := [.int (iI (p0)), .int (iI (t))]) (rest := []) ⟨hx, hb, hml, hown, hts⟩ (c_X7_stays HN_wM hg (by omega) (by omega) (fun _ _ _ => trivial)) (cwV 2 hts gX7_laysHelps_X7_stays rfl rfl rfl (by decide +kernel) ⟨Nat.le_of_ble_eq_true rfl, Nat.le_of_ble_eq_true rfl⟩) (q0 := 0) rfl rfl rfl hK hNW hP rfl hl.1 rfl (Nat.le_of_ble_eq_true rfl) dX7_laysHelps_48 ⟨Nat.zero_le _, Nat.zero_le _⟩ ?_
                    refine W_wen (y := iI (sty now p0 t)) (congrArg iI (by unfold sty; rw [show 49 * p0 + t + 1 = 49 * p0 + (t + 1) by omega, H2 p0 (t + 1) (by omega) (by omega) (by omega) (by omega)])) ?_
                    refine lv_istore_n (lv' := [(3, .int (iI (sty now p0 t))), (2, .int (iI (p0))), (1, .int (iI (t))), (0, .ref (q 36))]) hx hb dX7_laysHelps_51 rfl hl (by decide) rfl (fun ls hl => ?_)
                    refine lv_iconst (v := iI (0)) hx hb dX7_laysHelps_52 rfl ?_
                    refine lv_istore (lv' := [(4, .int (iI (0))), (3, .int (iI (sty now p0 t))), (2, .int (iI (p0))), (1, .int (iI (t))), (0, .ref (q 36))]) hx hb dX7_laysHelps_53 hl (by decide) rfl (fun ls hl => ?_)
                    have L55 : ∀ (n : Nat) (o : Int) (v : Int) (ls : Array Slot) (H : Heap) (locs : List Loc), (0 ≤ o ∧ o ≤ now 0) → (v = (wkn (Vf now) p0 (t + now 1) (sty now p0 t, p0) o.toNat).1) → ((now 0 - o).toNat < n) → (lv_has ls 5 [(4, .int (iI (o))), (3, .int (iI (v))), (2, .int (iI (p0))), (1, .int (iI (t))), (0, .ref (q 36))]) → (va_P D vwCl (wM q C th ta fa sm tape now snaps wo sc (sa5 sa h3)) H) → (va_D A (wM q C th ta fa sm tape now snaps wo sc (sa5 sa h3))) → (va_S A s.heap H locs) → W p l e (rmN 7 156) s m ([.ref (q 36)] : List Value).toArray below meth c H locs 0 0 Q (F0 m 55 ls []) := by
                      intro n
                      induction n with
                      | zero => intro o v ls H locs o1 h4 hn; exact absurd hn (Nat.not_lt_zero _)
                      | succ n ih55 =>
                        intro o v ls H locs o1 h4 hn hl hP hD hS
                        have hn55 := hn
                        have vr := wkn_rng hg (p := p0) (t := t) (by omega) (by omega) o.toNat
                        rw [← h4] at vr
                        refine lv_iload hx hb dX7_laysHelps_55 (lv_at hl 0 rfl) ?_
                        refine lv_aload_n hx hb dX7_laysHelps_57 rfl (lv_at hl 4 rfl) ?_
                        refine va_get (D := D) (ci := 7) (v := .ref (q 38)) (C := RX7) (T := TX7) (N := 23) hx hb hts (by decide +kernel) hown hK hP 0 rfl rfl 11 (by decide) (hts (.fieldLink RX7 74 "BreakSetterModel" "now" "[I") (by decide +kernel)) (fun _ h9 => h9) rfl dX7_laysHelps_58 ?_
                        refine lv_iconst (v := iI (0)) hx hb dX7_laysHelps_61 rfl ?_
                        refine j_iald hx hb hK hP 2 1 rfl rfl ⟨by omega, by omega⟩ (Nat.le_of_ble_eq_true rfl) dX7_laysHelps_62 ?_
                        refine j_icmp_ge (tgt := 134) hx hb dX7_laysHelps_63 rfl ⟨by omega, by omega⟩ ⟨by omega, by omega⟩ (fun c63 => ?_) (fun c63 => ?_)
                        · skip
                          have sp := sty_nn hg (p := p0) (t := t) (by omega) (by omega)
                          have hv : v = Vf now p0 t := by rw [Vf_eq hg (by omega) (by omega), h4]; unfold nxp; first | (rw [show o = now 0 by omega]; done) | (rw [wkn_zero (fun x => Vf_hi now x (by omega)) sp, wkn_zero (fun x => Vf_hi now x (by omega)) sp]; done)
                          refine lv_aload_n hx hb dX7_laysHelps_134 rfl (lv_at hl 4 rfl) ?_
                          refine va_get (D := D) (ci := 7) (v := .ref (q 45)) (C := RX7) (T := TX7) (N := 23) hx hb hts (by decide +kernel) hown hK hP 0 rfl rfl 22 (by decide) (hts (.fieldLink RX7 96 "BreakSetterModel" "helps" "[I") (by decide +kernel)) (fun _ h9 => h9) rfl dX7_laysHelps_135 ?_
                          refine lv_bipush (v := iI (49)) hx hb dX7_laysHelps_138 (by decide) ?_
                          refine lv_iload_n hx hb dX7_laysHelps_140 rfl (lv_at hl 2 rfl) ?_
                          refine j_imul hx hb dX7_laysHelps_141 ?_
                          refine lv_iload_n hx hb dX7_laysHelps_142 rfl (lv_at hl 3 rfl) ?_
                          refine j_iadd hx hb dX7_laysHelps_143 ?_
                          refine lv_iload_n hx hb dX7_laysHelps_144 rfl (lv_at hl 1 rfl) ?_
                          refine j_iast hx hb hK hP hD hS 9 1 rfl rfl ⟨by omega, by omega⟩ (Nat.le_of_ble_eq_true rfl) dX7_laysHelps_145 (fun H locs hP hD hS => ?_)
                          have hP : va_P D vwCl (wM q C th ta fa sm tape now snaps wo sc (sa5 sa (up h3 ((49 * p0) + t) v))) H := hP
                          have hD : va_D A (wM q C th ta fa sm tape now snaps wo sc (sa5 sa (up h3 ((49 * p0) + t) v))) := hD
                          refine j_iinc (k := 2) (lv' := [(2, .int (iI (p0 + 1))), (4, .int (iI (o))), (3, .int (iI (v))), (1, .int (iI (t))), (0, .ref (q 36))]) hx hb dX7_laysHelps_146 hl rfl (by decide) rfl (fun ls hl => ?_)
                          refine lv_goto (tgt := 35) hx hb dX7_laysHelps_149 rfl ?_
                          exact ih35 (p0 + 1) (up h3 ((49 * p0) + t) v) ls H locs (by omega) (fun p x a b c d => by rw [up_n _ _ (by omega)]; exact H2 p x a b c d) (fa_step (fun p a b => by rw [up_n _ _ (by omega)]; exact H3 p a b) (by rw [up_s]; exact hv)) (by omega) (lv_sub hl [0, 3, 4] rfl) hP hD hS
                        · skip
                          have ro := Vf_r hg (p := o) (t := t + now 1) (by omega)
                          refine lv_iload_n hx hb dX7_laysHelps_66 rfl (lv_at hl 3 rfl) ?_
                          refine lv_aload_n hx hb dX7_laysHelps_67 rfl (lv_at hl 4 rfl) ?_
                          refine va_get (D := D) (ci := 7) (v := .ref (q 38)) (C := RX7) (T := TX7) (N := 23) hx hb hts (by decide +kernel) hown hK hP 0 rfl rfl 11 (by decide) (hts (.fieldLink RX7 74 "BreakSetterModel" "now" "[I") (by decide +kernel)) (fun _ h9 => h9) rfl dX7_laysHelps_68 ?_
                          refine lv_iconst (v := iI (1)) hx hb dX7_laysHelps_71 rfl ?_
                          refine j_iald hx hb hK hP 2 1 rfl rfl ⟨by omega, by omega⟩ (Nat.le_of_ble_eq_true rfl) dX7_laysHelps_72 ?_
                          refine j_iadd hx hb dX7_laysHelps_73 ?_
                          refine lv_bipush (v := iI (48)) hx hb dX7_laysHelps_74 (by decide) ?_
                          refine j_icmp_gt (tgt := 134) hx hb dX7_laysHelps_76 rfl ⟨by omega, by omega⟩ ⟨by decide, by decide⟩ (fun c76 => ?_) (fun c76 => ?_)
                          · skip
                            have sp := sty_nn hg (p := p0) (t := t) (by omega) (by omega)
                            have hv : v = Vf now p0 t := by rw [Vf_eq hg (by omega) (by omega), h4]; unfold nxp; first | (rw [show o = now 0 by omega]; done) | (rw [wkn_zero (fun x => Vf_hi now x (by omega)) sp, wkn_zero (fun x => Vf_hi now x (by omega)) sp]; done)
                            refine lv_aload_n hx hb dX7_laysHelps_134 rfl (lv_at hl 4 rfl) ?_
                            refine va_get (D := D) (ci := 7) (v := .ref (q 45)) (C := RX7) (T := TX7) (N := 23) hx hb hts (by decide +kernel) hown hK hP 0 rfl rfl 22 (by decide) (hts (.fieldLink RX7 96 "BreakSetterModel" "helps" "[I") (by decide +kernel)) (fun _ h9 => h9) rfl dX7_laysHelps_135 ?_
                            refine lv_bipush (v := iI (49)) hx hb dX7_laysHelps_138 (by decide) ?_
                            refine lv_iload_n hx hb dX7_laysHelps_140 rfl (lv_at hl 2 rfl) ?_
                            refine j_imul hx hb dX7_laysHelps_141 ?_
                            refine lv_iload_n hx hb dX7_laysHelps_142 rfl (lv_at hl 3 rfl) ?_
                            refine j_iadd hx hb dX7_laysHelps_143 ?_
                            refine lv_iload_n hx hb dX7_laysHelps_144 rfl (lv_at hl 1 rfl) ?_
                            refine j_iast hx hb hK hP hD hS 9 1 rfl rfl ⟨by omega, by omega⟩ (Nat.le_of_ble_eq_true rfl) dX7_laysHelps_145 (fun H locs hP hD hS => ?_)
                            have hP : va_P D vwCl (wM q C th ta fa sm tape now snaps wo sc (sa5 sa (up h3 ((49 * p0) + t) v))) H := hP
                            have hD : va_D A (wM q C th ta fa sm tape now snaps wo sc (sa5 sa (up h3 ((49 * p0) + t) v))) := hD
                            refine j_iinc (k := 2) (lv' := [(2, .int (iI (p0 + 1))), (4, .int (iI (o))), (3, .int (iI (v))), (1, .int (iI (t))), (0, .ref (q 36))]) hx hb dX7_laysHelps_146 hl rfl (by decide) rfl (fun ls hl => ?_)
                            refine lv_goto (tgt := 35) hx hb dX7_laysHelps_149 rfl ?_
                            exact ih35 (p0 + 1) (up h3 ((49 * p0) + t) v) ls H locs (by omega) (fun p x a b c d => by rw [up_n _ _ (by omega)]; exact H2 p x a b c d) (fa_step (fun p a b => by rw [up_n _ _ (by omega)]; exact H3 p a b) (by rw [up_s]; exact hv)) (by omega) (lv_sub hl [0, 3, 4] rfl) hP hD hS
                          · skip
                            refine lv_iload hx hb dX7_laysHelps_79 (lv_at hl 0 rfl) ?_
                            refine lv_iload_n hx hb dX7_laysHelps_81 rfl (lv_at hl 2 rfl) ?_
                            refine j_icmp_eq (tgt := 128) hx hb dX7_laysHelps_82 rfl ⟨by omega, by omega⟩ ⟨by omega, by omega⟩ (fun c82 => ?_) (fun c82 => ?_)
                            · skip
                              refine j_iinc (k := 0) (lv' := [(4, .int (iI (o + 1))), (3, .int (iI (v))), (2, .int (iI (p0))), (1, .int (iI (t))), (0, .ref (q 36))]) hx hb dX7_laysHelps_128 hl rfl (by decide) rfl (fun ls hl => ?_)
                              refine lv_goto (tgt := 55) hx hb dX7_laysHelps_131 rfl ?_
                              exact ih55 (o + 1) v ls H locs (by omega) (by rw [wkn_s o1.1]; unfold wk1; first | (rw [if_pos ⟨c82, by omega⟩]; done) | (rw [if_neg (fun q => q.1 c82)]; exact h4; done) | (rw [if_neg (by omega)]; exact h4; done)) (by omega) (lv_sub hl [0, 1, 2, 3, 4] rfl) hP hD hS
                            · skip
                              refine lv_aload_n hx hb dX7_laysHelps_85 rfl (lv_at hl 4 rfl) ?_
                              refine va_get (D := D) (ci := 7) (v := .ref (q 45)) (C := RX7) (T := TX7) (N := 23) hx hb hts (by decide +kernel) hown hK hP 0 rfl rfl 22 (by decide) (hts (.fieldLink RX7 96 "BreakSetterModel" "helps" "[I") (by decide +kernel)) (fun _ h9 => h9) rfl dX7_laysHelps_86 ?_
                              refine lv_bipush (v := iI (49)) hx hb dX7_laysHelps_89 (by decide) ?_
                              refine lv_iload hx hb dX7_laysHelps_91 (lv_at hl 0 rfl) ?_
                              refine j_imul hx hb dX7_laysHelps_93 ?_
                              refine lv_iload_n hx hb dX7_laysHelps_94 rfl (lv_at hl 3 rfl) ?_
                              refine j_iadd hx hb dX7_laysHelps_95 ?_
                              refine lv_aload_n hx hb dX7_laysHelps_96 rfl (lv_at hl 4 rfl) ?_
                              refine va_get (D := D) (ci := 7) (v := .ref (q 38)) (C := RX7) (T := TX7) (N := 23) hx hb hts (by decide +kernel) hown hK hP 0 rfl rfl 11 (by decide) (hts (.fieldLink RX7 74 "BreakSetterModel" "now" "[I") (by decide +kernel)) (fun _ h9 => h9) rfl dX7_laysHelps_97 ?_
                              refine lv_iconst (v := iI (1)) hx hb dX7_laysHelps_100 rfl ?_
                              refine j_iald hx hb hK hP 2 1 rfl rfl ⟨by omega, by omega⟩ (Nat.le_of_ble_eq_true rfl) dX7_laysHelps_101 ?_
                              refine j_iadd hx hb dX7_laysHelps_102 ?_
                              refine j_iald hx hb hK hP 9 1 rfl rfl ⟨by omega, by omega⟩ (Nat.le_of_ble_eq_true rfl) dX7_laysHelps_103 ?_
                              refine W_wen (y := iI (Vf now o (t + now 1))) (congrArg iI (by rw [show 49 * o + t + now 1 = 49 * o + (t + now 1) by omega]; exact H2 o (t + now 1) (by omega) (by omega) (by omega) (by omega))) ?_
                              refine lv_iload_n hx hb dX7_laysHelps_104 rfl (lv_at hl 1 rfl) ?_
                              refine j_icmp_le (tgt := 128) hx hb dX7_laysHelps_105 rfl ⟨by omega, by omega⟩ ⟨by omega, by omega⟩ (fun c105 => ?_) (fun c105 => ?_)
                              · skip
                                refine j_iinc (k := 0) (lv' := [(4, .int (iI (o + 1))), (3, .int (iI (v))), (2, .int (iI (p0))), (1, .int (iI (t))), (0, .ref (q 36))]) hx hb dX7_laysHelps_128 hl rfl (by decide) rfl (fun ls hl => ?_)
                                refine lv_goto (tgt := 55) hx hb dX7_laysHelps_131 rfl ?_
                                exact ih55 (o + 1) v ls H locs (by omega) (by rw [wkn_s o1.1]; unfold wk1; first | (rw [if_pos ⟨c82, by omega⟩]; done) | (rw [if_neg (fun q => q.1 c82)]; exact h4; done) | (rw [if_neg (by omega)]; exact h4; done)) (by omega) (lv_sub hl [0, 1, 2, 3, 4] rfl) hP hD hS
                              · skip
                                refine lv_aload_n hx hb dX7_laysHelps_108 rfl (lv_at hl 4 rfl) ?_
                                refine va_get (D := D) (ci := 7) (v := .ref (q 45)) (C := RX7) (T := TX7) (N := 23) hx hb hts (by decide +kernel) hown hK hP 0 rfl rfl 22 (by decide) (hts (.fieldLink RX7 96 "BreakSetterModel" "helps" "[I") (by decide +kernel)) (fun _ h9 => h9) rfl dX7_laysHelps_109 ?_
                                refine lv_bipush (v := iI (49)) hx hb dX7_laysHelps_112 (by decide) ?_
                                refine lv_iload hx hb dX7_laysHelps_114 (lv_at hl 0 rfl) ?_
                                refine j_imul hx hb dX7_laysHelps_116 ?_
                                refine lv_iload_n hx hb dX7_laysHelps_117 rfl (lv_at hl 3 rfl) ?_
                                refine j_iadd hx hb dX7_laysHelps_118 ?_
                                refine lv_aload_n hx hb dX7_laysHelps_119 rfl (lv_at hl 4 rfl) ?_
                                refine va_get (D := D) (ci := 7) (v := .ref (q 38)) (C := RX7) (T := TX7) (N := 23) hx hb hts (by decide +kernel) hown hK hP 0 rfl rfl 11 (by decide) (hts (.fieldLink RX7 74 "BreakSetterModel" "now" "[I") (by decide +kernel)) (fun _ h9 => h9) rfl dX7_laysHelps_120 ?_
                                refine lv_iconst (v := iI (1)) hx hb dX7_laysHelps_123 rfl ?_
                                refine j_iald hx hb hK hP 2 1 rfl rfl ⟨by omega, by omega⟩ (Nat.le_of_ble_eq_true rfl) dX7_laysHelps_124 ?_
                                refine j_iadd hx hb dX7_laysHelps_125 ?_
                                refine j_iald hx hb hK hP 9 1 rfl rfl ⟨by omega, by omega⟩ (Nat.le_of_ble_eq_true rfl) dX7_laysHelps_126 ?_
                                refine W_wen (y := iI (Vf now o (t + now 1))) (congrArg iI (by rw [show 49 * o + t + now 1 = 49 * o + (t + now 1) by omega]; exact H2 o (t + now 1) (by omega) (by omega) (by omega) (by omega))) ?_
                                refine lv_istore_n (lv' := [(3, .int (iI (Vf now o (t + now 1)))), (4, .int (iI (o))), (2, .int (iI (p0))), (1, .int (iI (t))), (0, .ref (q 36))]) hx hb dX7_laysHelps_127 rfl hl (by decide) rfl (fun ls hl => ?_)
                                refine j_iinc (k := 1) (lv' := [(4, .int (iI (o + 1))), (3, .int (iI (Vf now o (t + now 1)))), (2, .int (iI (p0))), (1, .int (iI (t))), (0, .ref (q 36))]) hx hb dX7_laysHelps_128 hl rfl (by decide) rfl (fun ls hl => ?_)
                                refine lv_goto (tgt := 55) hx hb dX7_laysHelps_131 rfl ?_
                                exact ih55 (o + 1) (Vf now o (t + now 1)) ls H locs (by omega) (by rw [wkn_s o1.1]; unfold wk1; first | (rw [if_pos ⟨c82, by omega⟩]; done) | (rw [if_neg (fun q => q.1 c82)]; exact h4; done) | (rw [if_neg (by omega)]; exact h4; done)) (by omega) (lv_sub hl [0, 1, 2, 3, 4] rfl) hP hD hS
                    exact L55 _ 0 (sty now p0 t) ls H locs (by omega) rfl (Nat.lt_succ_self _) (lv_sub hl [0, 1, 2, 3, 4] rfl) hP hD hS
              exact L35 _ 0 h2 ls H locs (by omega) H2 (fun p a b => absurd b (by omega)) (Nat.lt_succ_self _) (lv_sub hl [0, 1, 2] rfl) hP hD hS
        exact L29 _ 47 h1 ls H locs (by omega) (fun p x a b c d => by rw [show x = 48 by omega, i2 p a (by omega), Vf_hi now p (by omega)]) (Nat.lt_succ_self _) (lv_sub hl [0, 1] rfl) hP hD hS
      · skip
        refine lv_aload_n hx hb dX7_laysHelps_7 rfl (lv_at hl 1 rfl) ?_
        refine va_get (D := D) (ci := 7) (v := .ref (q 45)) (C := RX7) (T := TX7) (N := 23) hx hb hts (by decide +kernel) hown hK hP 0 rfl rfl 22 (by decide) (hts (.fieldLink RX7 96 "BreakSetterModel" "helps" "[I") (by decide +kernel)) (fun _ h9 => h9) rfl dX7_laysHelps_8 ?_
        refine lv_bipush (v := iI (49)) hx hb dX7_laysHelps_11 (by decide) ?_
        refine lv_iload_n hx hb dX7_laysHelps_13 rfl (lv_at hl 0 rfl) ?_
        refine j_imul hx hb dX7_laysHelps_14 ?_
        refine lv_bipush (v := iI (48)) hx hb dX7_laysHelps_15 (by decide) ?_
        refine j_iadd hx hb dX7_laysHelps_17 ?_
        refine lv_iconst (v := iI (0)) hx hb dX7_laysHelps_18 rfl ?_
        refine j_iast hx hb hK hP hD hS 9 1 rfl rfl ⟨by omega, by omega⟩ (Nat.le_of_ble_eq_true rfl) dX7_laysHelps_19 (fun H locs hP hD hS => ?_)
        have hP : va_P D vwCl (wM q C th ta fa sm tape now snaps wo sc (sa5 sa (up h1 ((49 * i) + 48) 0))) H := hP
        have hD : va_D A (wM q C th ta fa sm tape now snaps wo sc (sa5 sa (up h1 ((49 * i) + 48) 0))) := hD
        refine j_iinc (k := 0) (lv' := [(1, .int (iI (i + 1))), (0, .ref (q 36))]) hx hb dX7_laysHelps_20 hl rfl (by decide) rfl (fun ls hl => ?_)
        refine lv_goto (tgt := 2) hx hb dX7_laysHelps_23 rfl ?_
        exact ih2 (i + 1) (up h1 ((49 * i) + 48) 0) ls H locs (by omega) (fa_step (fun p a b => by rw [up_n _ _ (by omega)]; exact i2 p a b) (up_s _ _ _)) (by omega) (lv_sub hl [0, 1] rfl) hP hD hS
  exact L2 _ 0 hq ls s.heap [] (by omega) (fun p a b => absurd b (by omega)) (Nat.lt_succ_self _) (lv_sub hl [0, 1] rfl) hP hD hS
