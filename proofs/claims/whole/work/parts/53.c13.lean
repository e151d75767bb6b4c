def RdW (q : Nat → Nat) (_ : Nat → ClassId) (w : va_W) (fk tk ts te st ins po fr to ln ea : Int) : Prop := ∃ k : Nat, w[k]? = some (q 3, .inr (2, [.ref (q 1), .ref (q 4), .int (iI fk), .int (iI tk), .int (iI ts), .int (iI te), .int (iI st), .int (iI ins), .int (iI po), .int (iI fr), .int (iI to), .int (iI ln), .int (iI ea)]))
theorem bAt_in {len : Int} {bs : Int → Int} {i : Int} (h0 : 0 ≤ i) (h1 : i < len) : bAt len bs i = bs i := if_pos ⟨h0, h1⟩
theorem bAt_out {len : Int} {bs : Int → Int} {i : Int} (h1 : len ≤ i) : bAt len bs i = -1 := if_neg (by omega)
noncomputable def kR (b : Int → Int) (s f : Int) : Int := if dgs b s f = 0 then 1 else if dgs b s f = f - s ∧ f - s ≤ 2 then 2 else 0
theorem kR_tkK {b : Int → Int} {n s : Int} (h : isRn (b s)) : kR b s (tkE b n s) = tkK b n s := by
  unfold kR
  by_cases h1 : dgs b s (tkE b n s) = 0
  · rw [if_pos h1, tkK_1 h h1]
  · rw [if_neg h1]
    by_cases h2 : dgs b s (tkE b n s) = tkE b n s - s ∧ tkE b n s - s ≤ 2
    · rw [if_pos h2, tkK_2 h h1 h2]
    · rw [if_neg h2, tkK_0 h h1 h2]
def loR (st fr ea : Int) : Int := if st = 5 ∨ st = 6 ∨ st = 11 then 1 else if st = 9 ∨ st = 12 then fr else if st = 13 then ea else 0
theorem loR_1 {st fr ea : Int} (h : st = 5 ∨ st = 6 ∨ st = 11) : loR st fr ea = 1 := if_pos h
theorem loR_f {st fr ea : Int} (h : st = 9 ∨ st = 12) : loR st fr ea = fr := by unfold loR; rw [if_neg (by omega), if_pos h]
theorem loR_e {st fr ea : Int} (h : st = 13) : loR st fr ea = ea := by unfold loR; rw [if_neg (by omega), if_neg (by omega), if_pos h]
theorem loR_0 {st fr ea : Int} (h : ¬ (st = 5 ∨ st = 6 ∨ st = 11 ∨ st = 9 ∨ st = 12 ∨ st = 13)) : loR st fr ea = 0 := by unfold loR; rw [if_neg (by omega), if_neg (by omega), if_neg (by omega)]
def hiR (st to ln dp : Int) : Int := if st = 5 then 3 else if st = 6 then 4 else if st = 7 then dp - 1 else if st = 10 then 9 else if st = 11 then 4 else if st = 12 then to else if st = 13 then to - ln + 1 else 47
theorem hiR_5 {st to ln dp : Int} (h : st = 5) : hiR st to ln dp = 3 := if_pos h
theorem hiR_6 {st to ln dp : Int} (h : st = 6) : hiR st to ln dp = 4 := by subst h; rfl
theorem hiR_7 {st to ln dp : Int} (h : st = 7) : hiR st to ln dp = dp - 1 := by subst h; rfl
theorem hiR_10 {st to ln dp : Int} (h : st = 10) : hiR st to ln dp = 9 := by subst h; rfl
theorem hiR_11 {st to ln dp : Int} (h : st = 11) : hiR st to ln dp = 4 := by subst h; rfl
theorem hiR_12 {st to ln dp : Int} (h : st = 12) : hiR st to ln dp = to := by subst h; rfl
theorem hiR_13 {st to ln dp : Int} (h : st = 13) : hiR st to ln dp = to - ln + 1 := by subst h; rfl
theorem hiR_d {st to ln dp : Int} (h : ¬ (st = 5 ∨ st = 6 ∨ st = 7 ∨ st = 10 ∨ st = 11 ∨ st = 12 ∨ st = 13)) : hiR st to ln dp = 47 := by
  unfold hiR
  rw [if_neg (by omega), if_neg (by omega), if_neg (by omega), if_neg (by omega), if_neg (by omega), if_neg (by omega), if_neg (by omega)]
/-- the words by their letters -/
def wlS (i : Nat) : List Int := ([[112, 111, 115, 116, 115], [110, 101, 101, 100], [115, 104, 105, 102, 116], [112, 97, 117, 115, 101]] : List (List Int)).getD i []
theorem wlS_n : ∀ i, i < 4 → ((wlS i).length : Int) = stN i := by decide +kernel
theorem wlS_r5 : ∀ i, i < 4 → ∀ k, k < 5 → 0 ≤ (wlS i).getD k 0 ∧ (wlS i).getD k 0 < 256 := by decide +kernel
theorem wlS_l : ∀ i, i < 4 → (wlS i).length ≤ 5 := by decide +kernel
theorem wlS_r (i : Nat) (hi : i < 4) (k : Nat) : 0 ≤ (wlS i).getD k 0 ∧ (wlS i).getD k 0 < 256 := by
  by_cases h : k < 5
  · exact wlS_r5 i hi k h
  · rw [List.getD_eq_getElem?_getD, List.getElem?_eq_none (by have := wlS_l i hi; omega)]; exact ⟨Int.le_refl 0, by decide⟩
theorem stC_w5 : ∀ i, i < 4 → ∀ k, k < 5 → (stB.getD i []).getD k 0 = iI ((wlS i).getD k 0) := by decide +kernel
theorem stC_w (i : Nat) (hi : i < 4) (k : Nat) (h : k < 5) : (stB.getD i []).getD k 0 = iI ((wlS i).getD k 0) := stC_w5 i hi k h
theorem b01_n (P : Prop) : narrow .boolean (.int (iI (bI P))) = .int (iI (bI P)) := by
  by_cases h : P
  · rw [bI_t h]; rfl
  · rw [bI_f h]; rfl
set_option maxHeartbeats 4000000 in
set_option maxRecDepth 100000 in
theorem c_X2_isBlank {l : Launch} {D : va_G} {C : Nat → ClassId} {w : va_W} {vv : Int} (h1 : R32 vv) : CR l yX2_isBlank wsX2_isBlank 0 0 D C [.int (iI (vv))] (w) (.int (iI (bI (vv = 32 ∨ vv = 10)))) := by
  refine CRZ_of (cc := cX2_isBlank) (maxL := 1) (by decide) rfl (Nat.le_of_ble_eq_true rfl) (bI_01 _) ?_
  intro p e s m below meth c Q ls hx hb hml hown hts hK hNW hl hP hret
  have hl : lv_has ls 1 [(0, .int (iI (vv)))] := hl
  refine lv_iload_n hx hb dX2_isBlank_0 rfl (lv_at hl 0 rfl) ?_
  refine lv_bipush (v := iI (32)) hx hb dX2_isBlank_1 (by decide) ?_
  refine j_icmp_eq (tgt := 12) hx hb dX2_isBlank_3 rfl h1 ⟨by decide, by decide⟩ (fun c3 => ?_) (fun c3 => ?_)
  · skip
    refine lv_iconst (v := iI (1)) hx hb dX2_isBlank_12 rfl ?_
    refine lv_goto (tgt := 17) hx hb dX2_isBlank_13 rfl ?_
    exact hret ls 17 _ dX2_isBlank_17 (by rw [bI_t (by omega)])
  · skip
    refine lv_iload_n hx hb dX2_isBlank_6 rfl (lv_at hl 0 rfl) ?_
    refine lv_bipush (v := iI (10)) hx hb dX2_isBlank_7 (by decide) ?_
    refine j_icmp_ne (tgt := 16) hx hb dX2_isBlank_9 rfl h1 ⟨by decide, by decide⟩ (fun c9 => ?_) (fun c9 => ?_)
    · skip
      refine lv_iconst (v := iI (0)) hx hb dX2_isBlank_16 rfl ?_
      exact hret ls 17 _ dX2_isBlank_17 (by rw [bI_f (by omega)])
    · skip
      refine lv_iconst (v := iI (1)) hx hb dX2_isBlank_12 rfl ?_
      refine lv_goto (tgt := 17) hx hb dX2_isBlank_13 rfl ?_
      exact hret ls 17 _ dX2_isBlank_17 (by rw [bI_t (by omega)])

set_option maxHeartbeats 4000000 in
set_option maxRecDepth 100000 in
theorem c_X2_isLetter {l : Launch} {D : va_G} {C : Nat → ClassId} {w : va_W} {vv : Int} (h1 : R32 vv) : CR l yX2_isLetter wsX2_isLetter 0 0 D C [.int (iI (vv))] (w) (.int (iI (bI (97 ≤ vv ∧ vv ≤ 122)))) := by
  refine CRZ_of (cc := cX2_isLetter) (maxL := 1) (by decide) rfl (Nat.le_of_ble_eq_true rfl) (bI_01 _) ?_
  intro p e s m below meth c Q ls hx hb hml hown hts hK hNW hl hP hret
  have hl : lv_has ls 1 [(0, .int (iI (vv)))] := hl
  refine lv_iload_n hx hb dX2_isLetter_0 rfl (lv_at hl 0 rfl) ?_
  refine lv_bipush (v := iI (97)) hx hb dX2_isLetter_1 (by decide) ?_
  refine j_icmp_lt (tgt := 16) hx hb dX2_isLetter_3 rfl h1 ⟨by decide, by decide⟩ (fun c3 => ?_) (fun c3 => ?_)
  · skip
    refine lv_iconst (v := iI (0)) hx hb dX2_isLetter_16 rfl ?_
    exact hret ls 17 _ dX2_isLetter_17 (by rw [bI_f (by omega)])
  · skip
    refine lv_iload_n hx hb dX2_isLetter_6 rfl (lv_at hl 0 rfl) ?_
    refine lv_bipush (v := iI (122)) hx hb dX2_isLetter_7 (by decide) ?_
    refine j_icmp_gt (tgt := 16) hx hb dX2_isLetter_9 rfl h1 ⟨by decide, by decide⟩ (fun c9 => ?_) (fun c9 => ?_)
    · skip
      refine lv_iconst (v := iI (0)) hx hb dX2_isLetter_16 rfl ?_
      exact hret ls 17 _ dX2_isLetter_17 (by rw [bI_f (by omega)])
    · skip
      refine lv_iconst (v := iI (1)) hx hb dX2_isLetter_12 rfl ?_
      refine lv_goto (tgt := 17) hx hb dX2_isLetter_13 rfl ?_
      exact hret ls 17 _ dX2_isLetter_17 (by rw [bI_t (by omega)])

set_option maxHeartbeats 4000000 in
set_option maxRecDepth 100000 in
theorem c_X2_isDigit {l : Launch} {D : va_G} {C : Nat → ClassId} {w : va_W} {vv : Int} (h1 : R32 vv) : CR l yX2_isDigit wsX2_isDigit 0 0 D C [.int (iI (vv))] (w) (.int (iI (bI (48 ≤ vv ∧ vv ≤ 57)))) := by
  refine CRZ_of (cc := cX2_isDigit) (maxL := 1) (by decide) rfl (Nat.le_of_ble_eq_true rfl) (bI_01 _) ?_
  intro p e s m below meth c Q ls hx hb hml hown hts hK hNW hl hP hret
  have hl : lv_has ls 1 [(0, .int (iI (vv)))] := hl
  refine lv_iload_n hx hb dX2_isDigit_0 rfl (lv_at hl 0 rfl) ?_
  refine lv_bipush (v := iI (48)) hx hb dX2_isDigit_1 (by decide) ?_
  refine j_icmp_lt (tgt := 16) hx hb dX2_isDigit_3 rfl h1 ⟨by decide, by decide⟩ (fun c3 => ?_) (fun c3 => ?_)
  · skip
    refine lv_iconst (v := iI (0)) hx hb dX2_isDigit_16 rfl ?_
    exact hret ls 17 _ dX2_isDigit_17 (by rw [bI_f (by omega)])
  · skip
    refine lv_iload_n hx hb dX2_isDigit_6 rfl (lv_at hl 0 rfl) ?_
    refine lv_bipush (v := iI (57)) hx hb dX2_isDigit_7 (by decide) ?_
    refine j_icmp_gt (tgt := 16) hx hb dX2_isDigit_9 rfl h1 ⟨by decide, by decide⟩ (fun c9 => ?_) (fun c9 => ?_)
    · skip
      refine lv_iconst (v := iI (0)) hx hb dX2_isDigit_16 rfl ?_
      exact hret ls 17 _ dX2_isDigit_17 (by rw [bI_f (by omega)])
    · skip
      refine lv_iconst (v := iI (1)) hx hb dX2_isDigit_12 rfl ?_
      refine lv_goto (tgt := 17) hx hb dX2_isDigit_13 rfl ?_
      exact hret ls 17 _ dX2_isDigit_17 (by rw [bI_t (by omega)])

set_option maxHeartbeats 4000000 in
set_option maxRecDepth 100000 in
theorem c_X2_endOfBlanks {l : Launch} {D : va_G} {C : Nat → ClassId} {q : Nat → Nat} {w : va_W} {fk tk ts te st ins po fr to ln ea len : Int} {bs : Int → Int} (hr9 : RdW q C w fk tk ts te st ins po fr to ln ea) (hk8 : TpW q C w len bs) (hlen : 0 ≤ len ∧ len ≤ 640) (hbs : ∀ k : Int, 0 ≤ k → k < 640 → 0 ≤ bs k ∧ bs k < 256) {sx : Int} (hs : 0 ≤ sx ∧ sx ≤ len) : CR l yX2_endOfBlanks wsX2_endOfBlanks 1 21 D C [.ref (q 3), .int (iI (sx))] (w) (.int (iI (tkS bs len sx))) := by
  obtain ⟨k3, h3⟩ := id hr9
  obtain ⟨⟨k1, h1⟩, ⟨k2, h2⟩⟩ := id hk8
  refine CR_of (cc := cX2_endOfBlanks) (maxL := 3) (by decide) rfl (Nat.le_of_ble_eq_true rfl) ?_
  intro p e s m below meth c Q ls hx hb hml hown hts hK hNW hl hP hret
  have hl : lv_has ls 3 [(0, .ref (q 3)), (1, .int (iI (sx)))] := hl
  refine lv_iload_n hx hb dX2_endOfBlanks_0 rfl (lv_at hl 1 rfl) ?_
  refine lv_istore_n (lv' := [(2, .int (iI (sx))), (0, .ref (q 3)), (1, .int (iI (sx)))]) hx hb dX2_endOfBlanks_1 rfl hl (by decide) rfl (fun ls hl => ?_)
  have L2 : ∀ (n : Nat) (i : Int) (ls : Array Slot), (sx ≤ i ∧ i ≤ len) → (skp isBl bs len i = skp isBl bs len sx) → ((len - i).toNat < n) → (lv_has ls 3 [(2, .int (iI (i))), (0, .ref (q 3)), (1, .int (iI (sx)))]) → W p l e (rmN 1 21) s m ([.ref (q 3), .int (iI (sx))] : List Value).toArray below meth c s.heap [] 0 0 Q (F0 m 2 ls []) := by
    intro n
    induction n with
    | zero => intro i ls i1 i2 hn; exact absurd hn (Nat.not_lt_zero _)
    | succ n ih2 =>
      intro i ls i1 i2 hn hl
      have hn2 := hn
      refine lv_iload_n hx hb dX2_endOfBlanks_2 rfl (lv_at hl 0 rfl) ?_
      refine lv_aload_n hx hb dX2_endOfBlanks_3 rfl (lv_at hl 1 rfl) ?_
      refine va_get (D := D) (ci := 2) (v := .ref (q 1)) (C := RX2) (T := TX2) (N := 13) hx hb hts (by decide +kernel) hown hK hP k3 h3 rfl 0 (by decide) (hts (.fieldLink RX2 9 "BreakSetter$Reader" "tape" "LBreakSetter$Tape;") (by decide +kernel)) (fun _ h9 => h9) rfl dX2_endOfBlanks_4 ?_
      refine va_get (D := D) (ci := 4) (v := .int (iI (len))) (C := RX4) (T := TX4) (N := 2) hx hb hts (by decide +kernel) hown hK hP k1 h1 rfl 1 (by decide) (hts (.fieldLink RX2 56 "BreakSetter$Tape" "length" "I") (by decide +kernel)) (fun _ h9 => h9) rfl dX2_endOfBlanks_7 ?_
      refine j_icmp_ge (tgt := 33) hx hb dX2_endOfBlanks_10 rfl ⟨by omega, by omega⟩ ⟨by omega, by omega⟩ (fun c10 => ?_) (fun c10 => ?_)
      · skip
        refine lv_iload_n hx hb dX2_endOfBlanks_33 rfl (lv_at hl 0 rfl) ?_
        exact hret ls 34 _ dX2_endOfBlanks_34 (congrArg iI (by show i = skp isBl bs len sx; rw [← i2, skp_e (fun q => by omega)]))
      · skip
        have tb := hbs i (by omega) (by omega)
        refine lv_aload_n hx hb dX2_endOfBlanks_13 rfl (lv_at hl 1 rfl) ?_
        refine va_get (D := D) (ci := 2) (v := .ref (q 1)) (C := RX2) (T := TX2) (N := 13) hx hb hts (by decide +kernel) hown hK hP k3 h3 rfl 0 (by decide) (hts (.fieldLink RX2 9 "BreakSetter$Reader" "tape" "LBreakSetter$Tape;") (by decide +kernel)) (fun _ h9 => h9) rfl dX2_endOfBlanks_14 ?_
        refine lv_iload_n hx hb dX2_endOfBlanks_17 rfl (lv_at hl 0 rfl) ?_
        refine CR_callV (As := [.int (iI (i))]) (rest := []) ⟨hx, hb, hml, hown, hts⟩ (c_X4_byteAt hk8 hlen hbs ⟨by omega, by omega⟩) (cwV 1 hts gX2_endOfBlanks_X4_byteAt rfl rfl rfl (by decide +kernel) ⟨Nat.le_of_ble_eq_true rfl, Nat.le_of_ble_eq_true rfl⟩) (q0 := k1) h1 rfl rfl hK hNW hP rfl hl.1 rfl (Nat.le_of_ble_eq_true rfl) dX2_endOfBlanks_18 ⟨Nat.zero_le _, Nat.zero_le _⟩ ?_
        refine W_wen (y := iI (bs i)) (congrArg iI (bAt_in (by omega) (by omega))) ?_
        refine CR_callS (As := [.int (iI (bs i))]) (rest := []) ⟨hx, hb, hml, hown, hts⟩ (c_X2_isBlank ⟨by omega, by omega⟩) (va_cwS 1 hts gX2_endOfBlanks_X2_isBlank rfl rfl rfl (by decide +kernel) ⟨Nat.le_of_ble_eq_true rfl, Nat.le_of_ble_eq_true rfl⟩) hK hNW hP rfl hl.1 rfl (Nat.le_of_ble_eq_true rfl) dX2_endOfBlanks_21 ⟨Nat.zero_le _, Nat.zero_le _⟩ ?_
        refine j_ifeqB (tgt := 33) hx hb dX2_endOfBlanks_24 rfl (fun c24 => ?_) (fun c24 => ?_)
        · skip
          refine lv_iload_n hx hb dX2_endOfBlanks_33 rfl (lv_at hl 0 rfl) ?_
          exact hret ls 34 _ dX2_endOfBlanks_34 (congrArg iI (by show i = skp isBl bs len sx; rw [← i2, skp_e (fun q => by first | omega | exact c24 q.2)]))
        · skip
          refine j_iinc (k := 0) (lv' := [(2, .int (iI (i + 1))), (0, .ref (q 3)), (1, .int (iI (sx)))]) hx hb dX2_endOfBlanks_27 hl rfl (by decide) rfl (fun ls hl => ?_)
          refine lv_goto (tgt := 2) hx hb dX2_endOfBlanks_30 rfl ?_
          exact ih2 (i + 1) ls (by omega) (by rw [← skp_s (by omega) c24]; exact i2) (by omega) (lv_sub hl [0, 1, 2] rfl)
  exact L2 _ sx ls (by omega) rfl (Nat.lt_succ_self _) (lv_sub hl [0, 1, 2] rfl)

set_option maxHeartbeats 4000000 in
set_option maxRecDepth 100000 in
theorem c_X2_endOfRun {l : Launch} {D : va_G} {C : Nat → ClassId} {q : Nat → Nat} {w : va_W} {fk tk ts te st ins po fr to ln ea len : Int} {bs : Int → Int} (hr9 : RdW q C w fk tk ts te st ins po fr to ln ea) (hk8 : TpW q C w len bs) (hlen : 0 ≤ len ∧ len ≤ 640) (hbs : ∀ k : Int, 0 ≤ k → k < 640 → 0 ≤ bs k ∧ bs k < 256) {sx : Int} (hs : 0 ≤ sx ∧ sx ≤ len) : CR l yX2_endOfRun wsX2_endOfRun 1 21 D C [.ref (q 3), .int (iI (sx))] (w) (.int (iI (skp isRn bs len sx))) := by
  obtain ⟨k3, h3⟩ := id hr9
  obtain ⟨⟨k1, h1⟩, ⟨k2, h2⟩⟩ := id hk8
  refine CR_of (cc := cX2_endOfRun) (maxL := 3) (by decide) rfl (Nat.le_of_ble_eq_true rfl) ?_
  intro p e s m below meth c Q ls hx hb hml hown hts hK hNW hl hP hret
  have hl : lv_has ls 3 [(0, .ref (q 3)), (1, .int (iI (sx)))] := hl
  refine lv_iload_n hx hb dX2_endOfRun_0 rfl (lv_at hl 1 rfl) ?_
  refine lv_istore_n (lv' := [(2, .int (iI (sx))), (0, .ref (q 3)), (1, .int (iI (sx)))]) hx hb dX2_endOfRun_1 rfl hl (by decide) rfl (fun ls hl => ?_)
  have L2 : ∀ (n : Nat) (i : Int) (ls : Array Slot), (sx ≤ i ∧ i ≤ len) → (skp isRn bs len i = skp isRn bs len sx) → ((len - i).toNat < n) → (lv_has ls 3 [(2, .int (iI (i))), (0, .ref (q 3)), (1, .int (iI (sx)))]) → W p l e (rmN 1 21) s m ([.ref (q 3), .int (iI (sx))] : List Value).toArray below meth c s.heap [] 0 0 Q (F0 m 2 ls []) := by
    intro n
    induction n with
    | zero => intro i ls i1 i2 hn; exact absurd hn (Nat.not_lt_zero _)
    | succ n ih2 =>
      intro i ls i1 i2 hn hl
      have hn2 := hn
      refine lv_iload_n hx hb dX2_endOfRun_2 rfl (lv_at hl 0 rfl) ?_
      refine lv_aload_n hx hb dX2_endOfRun_3 rfl (lv_at hl 1 rfl) ?_
      refine va_get (D := D) (ci := 2) (v := .ref (q 1)) (C := RX2) (T := TX2) (N := 13) hx hb hts (by decide +kernel) hown hK hP k3 h3 rfl 0 (by decide) (hts (.fieldLink RX2 9 "BreakSetter$Reader" "tape" "LBreakSetter$Tape;") (by decide +kernel)) (fun _ h9 => h9) rfl dX2_endOfRun_4 ?_
      refine va_get (D := D) (ci := 4) (v := .int (iI (len))) (C := RX4) (T := TX4) (N := 2) hx hb hts (by decide +kernel) hown hK hP k1 h1 rfl 1 (by decide) (hts (.fieldLink RX2 56 "BreakSetter$Tape" "length" "I") (by decide +kernel)) (fun _ h9 => h9) rfl dX2_endOfRun_7 ?_
      refine j_icmp_ge (tgt := 47) hx hb dX2_endOfRun_10 rfl ⟨by omega, by omega⟩ ⟨by omega, by omega⟩ (fun c10 => ?_) (fun c10 => ?_)
      · skip
        refine lv_iload_n hx hb dX2_endOfRun_47 rfl (lv_at hl 0 rfl) ?_
        exact hret ls 48 _ dX2_endOfRun_48 (congrArg iI (by rw [← i2, skp_e (fun q => by omega)]))
      · skip
        have tb := hbs i (by omega) (by omega)
        refine lv_aload_n hx hb dX2_endOfRun_13 rfl (lv_at hl 1 rfl) ?_
        refine va_get (D := D) (ci := 2) (v := .ref (q 1)) (C := RX2) (T := TX2) (N := 13) hx hb hts (by decide +kernel) hown hK hP k3 h3 rfl 0 (by decide) (hts (.fieldLink RX2 9 "BreakSetter$Reader" "tape" "LBreakSetter$Tape;") (by decide +kernel)) (fun _ h9 => h9) rfl dX2_endOfRun_14 ?_
        refine lv_iload_n hx hb dX2_endOfRun_17 rfl (lv_at hl 0 rfl) ?_
        refine CR_callV (As := [.int (iI (i))]) (rest := []) ⟨hx, hb, hml, hown, hts⟩ (c_X4_byteAt hk8 hlen hbs ⟨by omega, by omega⟩) (cwV 1 hts gX2_endOfRun_X4_byteAt rfl rfl rfl (by decide +kernel) ⟨Nat.le_of_ble_eq_true rfl, Nat.le_of_ble_eq_true rfl⟩) (q0 := k1) h1 rfl rfl hK hNW hP rfl hl.1 rfl (Nat.le_of_ble_eq_true rfl) dX2_endOfRun_18 ⟨Nat.zero_le _, Nat.zero_le _⟩ ?_
        refine W_wen (y := iI (bs i)) (congrArg iI (bAt_in (by omega) (by omega))) ?_
        refine CR_callS (As := [.int (iI (bs i))]) (rest := []) ⟨hx, hb, hml, hown, hts⟩ (c_X2_isLetter ⟨by omega, by omega⟩) (va_cwS 1 hts gX2_endOfRun_X2_isLetter rfl rfl rfl (by decide +kernel) ⟨Nat.le_of_ble_eq_true rfl, Nat.le_of_ble_eq_true rfl⟩) hK hNW hP rfl hl.1 rfl (Nat.le_of_ble_eq_true rfl) dX2_endOfRun_21 ⟨Nat.zero_le _, Nat.zero_le _⟩ ?_
        refine j_ifneB (tgt := 41) hx hb dX2_endOfRun_24 rfl (fun c24 => ?_) (fun c24 => ?_)
        · skip
          refine j_iinc (k := 0) (lv' := [(2, .int (iI (i + 1))), (0, .ref (q 3)), (1, .int (iI (sx)))]) hx hb dX2_endOfRun_41 hl rfl (by decide) rfl (fun ls hl => ?_)
          refine lv_goto (tgt := 2) hx hb dX2_endOfRun_44 rfl ?_
          exact ih2 (i + 1) ls (by omega) (by rw [← skp_s (by omega) (show isRn (bs i) by exact Or.inl c24)]; exact i2) (by omega) (lv_sub hl [0, 1, 2] rfl)
        · skip
          refine lv_aload_n hx hb dX2_endOfRun_27 rfl (lv_at hl 1 rfl) ?_
          refine va_get (D := D) (ci := 2) (v := .ref (q 1)) (C := RX2) (T := TX2) (N := 13) hx hb hts (by decide +kernel) hown hK hP k3 h3 rfl 0 (by decide) (hts (.fieldLink RX2 9 "BreakSetter$Reader" "tape" "LBreakSetter$Tape;") (by decide +kernel)) (fun _ h9 => h9) rfl dX2_endOfRun_28 ?_
          refine lv_iload_n hx hb dX2_endOfRun_31 rfl (lv_at hl 0 rfl) ?_
          refine CR_callV (As := [.int (iI (i))]) (rest := []) ⟨hx, hb, hml, hown, hts⟩ (c_X4_byteAt hk8 hlen hbs ⟨by omega, by omega⟩) (cwV 1 hts gX2_endOfRun_X4_byteAt rfl rfl rfl (by decide +kernel) ⟨Nat.le_of_ble_eq_true rfl, Nat.le_of_ble_eq_true rfl⟩) (q0 := k1) h1 rfl rfl hK hNW hP rfl hl.1 rfl (Nat.le_of_ble_eq_true rfl) dX2_endOfRun_32 ⟨Nat.zero_le _, Nat.zero_le _⟩ ?_
          refine W_wen (y := iI (bs i)) (congrArg iI (bAt_in (by omega) (by omega))) ?_
          refine CR_callS (As := [.int (iI (bs i))]) (rest := []) ⟨hx, hb, hml, hown, hts⟩ (c_X2_isDigit ⟨by omega, by omega⟩) (va_cwS 1 hts gX2_endOfRun_X2_isDigit rfl rfl rfl (by decide +kernel) ⟨Nat.le_of_ble_eq_true rfl, Nat.le_of_ble_eq_true rfl⟩) hK hNW hP rfl hl.1 rfl (Nat.le_of_ble_eq_true rfl) dX2_endOfRun_35 ⟨Nat.zero_le _, Nat.zero_le _⟩ ?_
          refine j_ifeqB (tgt := 47) hx hb dX2_endOfRun_38 rfl (fun c38 => ?_) (fun c38 => ?_)
          · skip
            refine lv_iload_n hx hb dX2_endOfRun_47 rfl (lv_at hl 0 rfl) ?_
            exact hret ls 48 _ dX2_endOfRun_48 (congrArg iI (by rw [← i2, skp_e (fun q => by first | omega | exact Or.elim q.2 c24 c38)]))
          · skip
            refine j_iinc (k := 0) (lv' := [(2, .int (iI (i + 1))), (0, .ref (q 3)), (1, .int (iI (sx)))]) hx hb dX2_endOfRun_41 hl rfl (by decide) rfl (fun ls hl => ?_)
            refine lv_goto (tgt := 2) hx hb dX2_endOfRun_44 rfl ?_
            exact ih2 (i + 1) ls (by omega) (by rw [← skp_s (by omega) (show isRn (bs i) by first | exact Or.inl c24 | exact Or.inr c38)]; exact i2) (by omega) (lv_sub hl [0, 1, 2] rfl)
  exact L2 _ sx ls (by omega) rfl (Nat.lt_succ_self _) (lv_sub hl [0, 1, 2] rfl)

set_option maxHeartbeats 4000000 in
set_option maxRecDepth 100000 in
theorem c_X2_kindOfRun {l : Launch} {D : va_G} {C : Nat → ClassId} {q : Nat → Nat} {w : va_W} {fk tk ts te st ins po fr to ln ea len : Int} {bs : Int → Int} (hr9 : RdW q C w fk tk ts te st ins po fr to ln ea) (hk8 : TpW q C w len bs) (hlen : 0 ≤ len ∧ len ≤ 640) (hbs : ∀ k : Int, 0 ≤ k → k < 640 → 0 ≤ bs k ∧ bs k < 256) (ht : 0 ≤ ts ∧ ts ≤ te ∧ te ≤ len) : CR l yX2_kindOfRun wsX2_kindOfRun 1 21 D C [.ref (q 3)] (w) (.int (iI (kR bs ts te))) := by
  obtain ⟨k3, h3⟩ := id hr9
  obtain ⟨⟨k1, h1⟩, ⟨k2, h2⟩⟩ := id hk8
  refine CR_of (cc := cX2_kindOfRun) (maxL := 3) (by decide) rfl (Nat.le_of_ble_eq_true rfl) ?_
  intro p e s m below meth c Q ls hx hb hml hown hts hK hNW hl hP hret
  have hl : lv_has ls 3 [(0, .ref (q 3))] := hl
  refine lv_iconst (v := iI (0)) hx hb dX2_kindOfRun_0 rfl ?_
  refine lv_istore_n (lv' := [(1, .int (iI (0))), (0, .ref (q 3))]) hx hb dX2_kindOfRun_1 rfl hl (by decide) rfl (fun ls hl => ?_)
  refine lv_aload_n hx hb dX2_kindOfRun_2 rfl (lv_at hl 1 rfl) ?_
  refine va_get (D := D) (ci := 2) (v := .int (iI (ts))) (C := RX2) (T := TX2) (N := 13) hx hb hts (by decide +kernel) hown hK hP k3 h3 rfl 4 (by decide) (hts (.fieldLink RX2 43 "BreakSetter$Reader" "tokenStart" "I") (by decide +kernel)) (fun _ h9 => h9) rfl dX2_kindOfRun_3 ?_
  refine lv_istore_n (lv' := [(2, .int (iI (ts))), (1, .int (iI (0))), (0, .ref (q 3))]) hx hb dX2_kindOfRun_6 rfl hl (by decide) rfl (fun ls hl => ?_)
  have L7 : ∀ (n : Nat) (i : Int) (d : Int) (ls : Array Slot), (ts ≤ i ∧ i ≤ te) → (d = dgs bs ts i) → ((te - i).toNat < n) → (lv_has ls 3 [(2, .int (iI (i))), (1, .int (iI (d))), (0, .ref (q 3))]) → W p l e (rmN 1 21) s m ([.ref (q 3)] : List Value).toArray below meth c s.heap [] 0 0 Q (F0 m 7 ls []) := by
    intro n
    induction n with
    | zero => intro i d ls i1 i2 hn; exact absurd hn (Nat.not_lt_zero _)
    | succ n ih7 =>
      intro i d ls i1 i2 hn hl
      have hn7 := hn
      have dr := dgs_rng (b := bs) (s := ts) (i := i) (by omega)
      refine lv_iload_n hx hb dX2_kindOfRun_7 rfl (lv_at hl 0 rfl) ?_
      refine lv_aload_n hx hb dX2_kindOfRun_8 rfl (lv_at hl 2 rfl) ?_
      refine va_get (D := D) (ci := 2) (v := .int (iI (te))) (C := RX2) (T := TX2) (N := 13) hx hb hts (by decide +kernel) hown hK hP k3 h3 rfl 5 (by decide) (hts (.fieldLink RX2 32 "BreakSetter$Reader" "tokenEnd" "I") (by decide +kernel)) (fun _ h9 => h9) rfl dX2_kindOfRun_9 ?_
      refine j_icmp_ge (tgt := 38) hx hb dX2_kindOfRun_12 rfl ⟨by omega, by omega⟩ ⟨by omega, by omega⟩ (fun c12 => ?_) (fun c12 => ?_)
      · skip
        have e9 : d = dgs bs ts te := by rw [i2, show i = te by omega]
        refine lv_iload_n hx hb dX2_kindOfRun_38 rfl (lv_at hl 1 rfl) ?_
        refine j_if_ne (tgt := 44) hx hb dX2_kindOfRun_39 rfl ⟨by omega, by omega⟩ (fun c39 => ?_) (fun c39 => ?_)
        · skip
          refine lv_iload_n hx hb dX2_kindOfRun_44 rfl (lv_at hl 1 rfl) ?_
          refine lv_aload_n hx hb dX2_kindOfRun_45 rfl (lv_at hl 2 rfl) ?_
          refine va_get (D := D) (ci := 2) (v := .int (iI (te))) (C := RX2) (T := TX2) (N := 13) hx hb hts (by decide +kernel) hown hK hP k3 h3 rfl 5 (by decide) (hts (.fieldLink RX2 32 "BreakSetter$Reader" "tokenEnd" "I") (by decide +kernel)) (fun _ h9 => h9) rfl dX2_kindOfRun_46 ?_
          refine lv_aload_n hx hb dX2_kindOfRun_49 rfl (lv_at hl 2 rfl) ?_
          refine va_get (D := D) (ci := 2) (v := .int (iI (ts))) (C := RX2) (T := TX2) (N := 13) hx hb hts (by decide +kernel) hown hK hP k3 h3 rfl 4 (by decide) (hts (.fieldLink RX2 43 "BreakSetter$Reader" "tokenStart" "I") (by decide +kernel)) (fun _ h9 => h9) rfl dX2_kindOfRun_50 ?_
          refine j_isub hx hb dX2_kindOfRun_53 ?_
          refine j_icmp_ne (tgt := 66) hx hb dX2_kindOfRun_54 rfl ⟨by omega, by omega⟩ ⟨by omega, by omega⟩ (fun c54 => ?_) (fun c54 => ?_)
          · skip
            refine lv_iconst (v := iI (0)) hx hb dX2_kindOfRun_66 rfl ?_
            exact hret ls 67 _ dX2_kindOfRun_67 (congrArg iI (by unfold kR; rw [← e9]; first | (rw [if_pos c39]; done) | (rw [if_neg c39, if_pos ⟨c54, by omega⟩]; done) | (rw [if_neg c39, if_neg (fun q => by omega)]; done)))
          · skip
            refine lv_iload_n hx hb dX2_kindOfRun_57 rfl (lv_at hl 1 rfl) ?_
            refine lv_iconst (v := iI (2)) hx hb dX2_kindOfRun_58 rfl ?_
            refine j_icmp_gt (tgt := 66) hx hb dX2_kindOfRun_59 rfl ⟨by omega, by omega⟩ ⟨by decide, by decide⟩ (fun c59 => ?_) (fun c59 => ?_)
            · skip
              refine lv_iconst (v := iI (0)) hx hb dX2_kindOfRun_66 rfl ?_
              exact hret ls 67 _ dX2_kindOfRun_67 (congrArg iI (by unfold kR; rw [← e9]; first | (rw [if_pos c39]; done) | (rw [if_neg c39, if_pos ⟨c54, by omega⟩]; done) | (rw [if_neg c39, if_neg (fun q => by omega)]; done)))
            · skip
              refine lv_iconst (v := iI (2)) hx hb dX2_kindOfRun_62 rfl ?_
              refine lv_goto (tgt := 67) hx hb dX2_kindOfRun_63 rfl ?_
              exact hret ls 67 _ dX2_kindOfRun_67 (congrArg iI (by unfold kR; rw [← e9]; first | (rw [if_pos c39]; done) | (rw [if_neg c39, if_pos ⟨c54, by omega⟩]; done) | (rw [if_neg c39, if_neg (fun q => by omega)]; done)))
        · skip
          refine lv_iconst (v := iI (1)) hx hb dX2_kindOfRun_42 rfl ?_
          exact hret ls 43 _ dX2_kindOfRun_43 (congrArg iI (by unfold kR; rw [← e9]; first | (rw [if_pos c39]; done) | (rw [if_neg c39, if_neg (fun q => by omega)]; done)))
      · skip
        have tb := hbs i (by omega) (by omega)
        refine lv_aload_n hx hb dX2_kindOfRun_15 rfl (lv_at hl 2 rfl) ?_
        refine va_get (D := D) (ci := 2) (v := .ref (q 1)) (C := RX2) (T := TX2) (N := 13) hx hb hts (by decide +kernel) hown hK hP k3 h3 rfl 0 (by decide) (hts (.fieldLink RX2 9 "BreakSetter$Reader" "tape" "LBreakSetter$Tape;") (by decide +kernel)) (fun _ h9 => h9) rfl dX2_kindOfRun_16 ?_
        refine lv_iload_n hx hb dX2_kindOfRun_19 rfl (lv_at hl 0 rfl) ?_
        refine CR_callV (As := [.int (iI (i))]) (rest := []) ⟨hx, hb, hml, hown, hts⟩ (c_X4_byteAt hk8 hlen hbs ⟨by omega, by omega⟩) (cwV 1 hts gX2_kindOfRun_X4_byteAt rfl rfl rfl (by decide +kernel) ⟨Nat.le_of_ble_eq_true rfl, Nat.le_of_ble_eq_true rfl⟩) (q0 := k1) h1 rfl rfl hK hNW hP rfl hl.1 rfl (Nat.le_of_ble_eq_true rfl) dX2_kindOfRun_20 ⟨Nat.zero_le _, Nat.zero_le _⟩ ?_
        refine W_wen (y := iI (bs i)) (congrArg iI (bAt_in (by omega) (by omega))) ?_
        refine CR_callS (As := [.int (iI (bs i))]) (rest := []) ⟨hx, hb, hml, hown, hts⟩ (c_X2_isDigit ⟨by omega, by omega⟩) (va_cwS 1 hts gX2_kindOfRun_X2_isDigit rfl rfl rfl (by decide +kernel) ⟨Nat.le_of_ble_eq_true rfl, Nat.le_of_ble_eq_true rfl⟩) hK hNW hP rfl hl.1 rfl (Nat.le_of_ble_eq_true rfl) dX2_kindOfRun_23 ⟨Nat.zero_le _, Nat.zero_le _⟩ ?_
        refine j_ifeqB (tgt := 32) hx hb dX2_kindOfRun_26 rfl (fun c26 => ?_) (fun c26 => ?_)
        · skip
          refine j_iinc (k := 0) (lv' := [(2, .int (iI (i + 1))), (1, .int (iI (d))), (0, .ref (q 3))]) hx hb dX2_kindOfRun_32 hl rfl (by decide) rfl (fun ls hl => ?_)
          refine lv_goto (tgt := 7) hx hb dX2_kindOfRun_35 rfl ?_
          exact ih7 (i + 1) d ls (by omega) (by rw [dgs_s i1.1, ← i2]; first | (rw [bI_t (show isDi (bs i) from c26)]; done) | (rw [bI_f (show ¬ isDi (bs i) from c26)]; omega; done)) (by omega) (lv_sub hl [0, 1, 2] rfl)
        · skip
          refine j_iinc (k := 1) (lv' := [(1, .int (iI (d + 1))), (2, .int (iI (i))), (0, .ref (q 3))]) hx hb dX2_kindOfRun_29 hl rfl (by decide) rfl (fun ls hl => ?_)
          refine j_iinc (k := 1) (lv' := [(2, .int (iI (i + 1))), (1, .int (iI (d + 1))), (0, .ref (q 3))]) hx hb dX2_kindOfRun_32 hl rfl (by decide) rfl (fun ls hl => ?_)
          refine lv_goto (tgt := 7) hx hb dX2_kindOfRun_35 rfl ?_
          exact ih7 (i + 1) (d + 1) ls (by omega) (by rw [dgs_s i1.1, ← i2]; first | (rw [bI_t (show isDi (bs i) from c26)]; done) | (rw [bI_f (show ¬ isDi (bs i) from c26)]; omega; done)) (by omega) (lv_sub hl [0, 1, 2] rfl)
  exact L7 _ ts 0 ls (by omega) (dgs_0 _ _).symm (Nat.lt_succ_self _) (lv_sub hl [0, 1, 2] rfl)

set_option maxHeartbeats 4000000 in
set_option maxRecDepth 100000 in
theorem c_X2_numberOfToken {l : Launch} {D : va_G} {C : Nat → ClassId} {q : Nat → Nat} {w : va_W} {fk tk ts te st ins po fr to ln ea len : Int} {bs : Int → Int} (hr9 : RdW q C w fk tk ts te st ins po fr to ln ea) (hk8 : TpW q C w len bs) (hlen : 0 ≤ len ∧ len ≤ 640) (hbs : ∀ k : Int, 0 ≤ k → k < 640 → 0 ≤ bs k ∧ bs k < 256) (ht : 0 ≤ ts ∧ ts ≤ te ∧ te ≤ len) : CR l yX2_numberOfToken wsX2_numberOfToken 1 21 D C [.ref (q 3)] (w) (.int (iI (nmb bs ts te))) := by
  obtain ⟨k3, h3⟩ := id hr9
  obtain ⟨⟨k1, h1⟩, ⟨k2, h2⟩⟩ := id hk8
  refine CR_of (cc := cX2_numberOfToken) (maxL := 3) (by decide) rfl (Nat.le_of_ble_eq_true rfl) ?_
  intro p e s m below meth c Q ls hx hb hml hown hts hK hNW hl hP hret
  have hl : lv_has ls 3 [(0, .ref (q 3))] := hl
  refine lv_iconst (v := iI (0)) hx hb dX2_numberOfToken_0 rfl ?_
  refine lv_istore_n (lv' := [(1, .int (iI (0))), (0, .ref (q 3))]) hx hb dX2_numberOfToken_1 rfl hl (by decide) rfl (fun ls hl => ?_)
  refine lv_aload_n hx hb dX2_numberOfToken_2 rfl (lv_at hl 1 rfl) ?_
  refine va_get (D := D) (ci := 2) (v := .int (iI (ts))) (C := RX2) (T := TX2) (N := 13) hx hb hts (by decide +kernel) hown hK hP k3 h3 rfl 4 (by decide) (hts (.fieldLink RX2 43 "BreakSetter$Reader" "tokenStart" "I") (by decide +kernel)) (fun _ h9 => h9) rfl dX2_numberOfToken_3 ?_
  refine lv_istore_n (lv' := [(2, .int (iI (ts))), (1, .int (iI (0))), (0, .ref (q 3))]) hx hb dX2_numberOfToken_6 rfl hl (by decide) rfl (fun ls hl => ?_)
  have L7 : ∀ (n : Nat) (i : Int) (d : Int) (ls : Array Slot), (ts ≤ i ∧ i ≤ te) → (d = nmb bs ts i) → ((te - i).toNat < n) → (lv_has ls 3 [(2, .int (iI (i))), (1, .int (iI (d))), (0, .ref (q 3))]) → W p l e (rmN 1 21) s m ([.ref (q 3)] : List Value).toArray below meth c s.heap [] 0 0 Q (F0 m 7 ls []) := by
    intro n
    induction n with
    | zero => intro i d ls i1 i2 hn; exact absurd hn (Nat.not_lt_zero _)
    | succ n ih7 =>
      intro i d ls i1 i2 hn hl
      have hn7 := hn
      refine lv_iload_n hx hb dX2_numberOfToken_7 rfl (lv_at hl 0 rfl) ?_
      refine lv_aload_n hx hb dX2_numberOfToken_8 rfl (lv_at hl 2 rfl) ?_
      refine va_get (D := D) (ci := 2) (v := .int (iI (te))) (C := RX2) (T := TX2) (N := 13) hx hb hts (by decide +kernel) hown hK hP k3 h3 rfl 5 (by decide) (hts (.fieldLink RX2 32 "BreakSetter$Reader" "tokenEnd" "I") (by decide +kernel)) (fun _ h9 => h9) rfl dX2_numberOfToken_9 ?_
      refine j_icmp_ge (tgt := 38) hx hb dX2_numberOfToken_12 rfl ⟨by omega, by omega⟩ ⟨by omega, by omega⟩ (fun c12 => ?_) (fun c12 => ?_)
      · skip
        refine lv_iload_n hx hb dX2_numberOfToken_38 rfl (lv_at hl 1 rfl) ?_
        exact hret ls 39 _ dX2_numberOfToken_39 (congrArg iI (by rw [i2, show i = te by omega]))
      · skip
        have tb := hbs i (by omega) (by omega)
        refine lv_iload_n hx hb dX2_numberOfToken_15 rfl (lv_at hl 1 rfl) ?_
        refine lv_bipush (v := iI (10)) hx hb dX2_numberOfToken_16 (by decide) ?_
        refine j_imul hx hb dX2_numberOfToken_18 ?_
        refine lv_aload_n hx hb dX2_numberOfToken_19 rfl (lv_at hl 2 rfl) ?_
        refine va_get (D := D) (ci := 2) (v := .ref (q 1)) (C := RX2) (T := TX2) (N := 13) hx hb hts (by decide +kernel) hown hK hP k3 h3 rfl 0 (by decide) (hts (.fieldLink RX2 9 "BreakSetter$Reader" "tape" "LBreakSetter$Tape;") (by decide +kernel)) (fun _ h9 => h9) rfl dX2_numberOfToken_20 ?_
        refine lv_iload_n hx hb dX2_numberOfToken_23 rfl (lv_at hl 0 rfl) ?_
        refine CR_callV (As := [.int (iI (i))]) (rest := [.int (iI (d * 10))]) ⟨hx, hb, hml, hown, hts⟩ (c_X4_byteAt hk8 hlen hbs ⟨by omega, by omega⟩) (cwV 1 hts gX2_numberOfToken_X4_byteAt rfl rfl rfl (by decide +kernel) ⟨Nat.le_of_ble_eq_true rfl, Nat.le_of_ble_eq_true rfl⟩) (q0 := k1) h1 rfl rfl hK hNW hP rfl hl.1 rfl (Nat.le_of_ble_eq_true rfl) dX2_numberOfToken_24 ⟨Nat.zero_le _, Nat.zero_le _⟩ ?_
        refine W_wen (y := iI (bs i)) (congrArg iI (bAt_in (by omega) (by omega))) ?_
        refine j_iadd hx hb dX2_numberOfToken_27 ?_
        refine lv_bipush (v := iI (48)) hx hb dX2_numberOfToken_28 (by decide) ?_
        refine j_isub hx hb dX2_numberOfToken_30 ?_
        refine lv_istore_n (lv' := [(1, .int (iI (((d * 10) + (bs i)) - 48))), (2, .int (iI (i))), (0, .ref (q 3))]) hx hb dX2_numberOfToken_31 rfl hl (by decide) rfl (fun ls hl => ?_)
        refine j_iinc (k := 1) (lv' := [(2, .int (iI (i + 1))), (1, .int (iI (((d * 10) + (bs i)) - 48))), (0, .ref (q 3))]) hx hb dX2_numberOfToken_32 hl rfl (by decide) rfl (fun ls hl => ?_)
        refine lv_goto (tgt := 7) hx hb dX2_numberOfToken_35 rfl ?_
        exact ih7 (i + 1) (((d * 10) + (bs i)) - 48) ls (by omega) (by rw [nmb_s i1.1, ← i2]) (by omega) (lv_sub hl [0, 1, 2] rfl)
  exact L7 _ ts 0 ls (by omega) (nmb_0 _ _).symm (Nat.lt_succ_self _) (lv_sub hl [0, 1, 2] rfl)

set_option maxHeartbeats 4000000 in
set_option maxRecDepth 100000 in
theorem c_X2_lowestNumber {l : Launch} {D : va_G} {C : Nat → ClassId} {q : Nat → Nat} {w : va_W} {fk tk ts te st ins po fr to ln ea len : Int} {bs : Int → Int} (hr9 : RdW q C w fk tk ts te st ins po fr to ln ea) (hk8 : TpW q C w len bs) (hlen : 0 ≤ len ∧ len ≤ 640) (hbs : ∀ k : Int, 0 ≤ k → k < 640 → 0 ≤ bs k ∧ bs k < 256) (hst : 0 ≤ st ∧ st ≤ 13) : CR l yX2_lowestNumber wsX2_lowestNumber 0 0 D C [.ref (q 3)] (w) (.int (iI (loR st fr ea))) := by
  obtain ⟨k3, h3⟩ := id hr9
  obtain ⟨⟨k1, h1⟩, ⟨k2, h2⟩⟩ := id hk8
  refine CR_of (cc := cX2_lowestNumber) (maxL := 1) (by decide) rfl (Nat.le_of_ble_eq_true rfl) ?_
  intro p e s m below meth c Q ls hx hb hml hown hts hK hNW hl hP hret
  have hl : lv_has ls 1 [(0, .ref (q 3))] := hl
  refine lv_aload_n hx hb dX2_lowestNumber_0 rfl (lv_at hl 0 rfl) ?_
  refine va_get (D := D) (ci := 2) (v := .int (iI (st))) (C := RX2) (T := TX2) (N := 13) hx hb hts (by decide +kernel) hown hK hP k3 h3 rfl 6 (by decide) (hts (.fieldLink RX2 24 "BreakSetter$Reader" "state" "I") (by decide +kernel)) (fun _ h9 => h9) rfl dX2_lowestNumber_1 ?_
  by_cases hsw : 5 ≤ st ∧ st ≤ 13
  · skip
    obtain ⟨hsw1, hsw2⟩ := hsw
    rcases (show st = 5 ∨ st = 6 ∨ st = 7 ∨ st = 8 ∨ st = 9 ∨ st = 10 ∨ st = 11 ∨ st = 12 ∨ st = 13 by omega) with hsw | hsw | hsw | hsw | hsw | hsw | hsw | hsw | hsw
    · skip
      refine j_swIn (k := 5) (off := 52) (tgt := 56) hx hb dX2_lowestNumber_4 hsw (by decide) (by decide) rfl rfl ?_
      refine lv_iconst (v := iI (1)) hx hb dX2_lowestNumber_56 rfl ?_
      exact hret ls 57 _ dX2_lowestNumber_57 (congrArg iI (loR_1 (by omega)).symm)
    · skip
      refine j_swIn (k := 6) (off := 52) (tgt := 56) hx hb dX2_lowestNumber_4 hsw (by decide) (by decide) rfl rfl ?_
      refine lv_iconst (v := iI (1)) hx hb dX2_lowestNumber_56 rfl ?_
      exact hret ls 57 _ dX2_lowestNumber_57 (congrArg iI (loR_1 (by omega)).symm)
    · skip
      refine j_swIn (k := 7) (off := 64) (tgt := 68) hx hb dX2_lowestNumber_4 hsw (by decide) (by decide) rfl rfl ?_
      refine lv_iconst (v := iI (0)) hx hb dX2_lowestNumber_68 rfl ?_
      exact hret ls 69 _ dX2_lowestNumber_69 (congrArg iI (loR_0 (by omega)).symm)
    · skip
      refine j_swIn (k := 8) (off := 64) (tgt := 68) hx hb dX2_lowestNumber_4 hsw (by decide) (by decide) rfl rfl ?_
      refine lv_iconst (v := iI (0)) hx hb dX2_lowestNumber_68 rfl ?_
      exact hret ls 69 _ dX2_lowestNumber_69 (congrArg iI (loR_0 (by omega)).symm)
    · skip
      refine j_swIn (k := 9) (off := 54) (tgt := 58) hx hb dX2_lowestNumber_4 hsw (by decide) (by decide) rfl rfl ?_
      refine lv_aload_n hx hb dX2_lowestNumber_58 rfl (lv_at hl 0 rfl) ?_
      refine va_get (D := D) (ci := 2) (v := .int (iI (fr))) (C := RX2) (T := TX2) (N := 13) hx hb hts (by decide +kernel) hown hK hP k3 h3 rfl 9 (by decide) (hts (.fieldLink RX2 141 "BreakSetter$Reader" "from" "I") (by decide +kernel)) (fun _ h9 => h9) rfl dX2_lowestNumber_59 ?_
      exact hret ls 62 _ dX2_lowestNumber_62 (congrArg iI (loR_f (by omega)).symm)
    · skip
      refine j_swIn (k := 10) (off := 64) (tgt := 68) hx hb dX2_lowestNumber_4 hsw (by decide) (by decide) rfl rfl ?_
      refine lv_iconst (v := iI (0)) hx hb dX2_lowestNumber_68 rfl ?_
      exact hret ls 69 _ dX2_lowestNumber_69 (congrArg iI (loR_0 (by omega)).symm)
    · skip
      refine j_swIn (k := 11) (off := 52) (tgt := 56) hx hb dX2_lowestNumber_4 hsw (by decide) (by decide) rfl rfl ?_
      refine lv_iconst (v := iI (1)) hx hb dX2_lowestNumber_56 rfl ?_
      exact hret ls 57 _ dX2_lowestNumber_57 (congrArg iI (loR_1 (by omega)).symm)
    · skip
      refine j_swIn (k := 12) (off := 54) (tgt := 58) hx hb dX2_lowestNumber_4 hsw (by decide) (by decide) rfl rfl ?_
      refine lv_aload_n hx hb dX2_lowestNumber_58 rfl (lv_at hl 0 rfl) ?_
      refine va_get (D := D) (ci := 2) (v := .int (iI (fr))) (C := RX2) (T := TX2) (N := 13) hx hb hts (by decide +kernel) hown hK hP k3 h3 rfl 9 (by decide) (hts (.fieldLink RX2 141 "BreakSetter$Reader" "from" "I") (by decide +kernel)) (fun _ h9 => h9) rfl dX2_lowestNumber_59 ?_
      exact hret ls 62 _ dX2_lowestNumber_62 (congrArg iI (loR_f (by omega)).symm)
    · skip
      refine j_swIn (k := 13) (off := 59) (tgt := 63) hx hb dX2_lowestNumber_4 hsw (by decide) (by decide) rfl rfl ?_
      refine lv_aload_n hx hb dX2_lowestNumber_63 rfl (lv_at hl 0 rfl) ?_
      refine va_get (D := D) (ci := 2) (v := .int (iI (ea))) (C := RX2) (T := TX2) (N := 13) hx hb hts (by decide +kernel) hown hK hP k3 h3 rfl 12 (by decide) (hts (.fieldLink RX2 144 "BreakSetter$Reader" "early" "I") (by decide +kernel)) (fun _ h9 => h9) rfl dX2_lowestNumber_64 ?_
      exact hret ls 67 _ dX2_lowestNumber_67 (congrArg iI (loR_e (by omega)).symm)
  · skip
    refine j_swOut (tgt := 68) hx hb dX2_lowestNumber_4 ⟨by omega, by omega⟩ (by omega) rfl ?_
    refine lv_iconst (v := iI (0)) hx hb dX2_lowestNumber_68 rfl ?_
    exact hret ls 69 _ dX2_lowestNumber_69 (congrArg iI (loR_0 (by omega)).symm)

set_option maxHeartbeats 4000000 in
set_option maxRecDepth 100000 in
theorem c_X2_highestNumber {l : Launch} {D : va_G} {C : Nat → ClassId} {q : Nat → Nat} {w : va_W} {fk tk ts te st ins po fr to ln ea len : Int} {bs : Int → Int} (hr9 : RdW q C w fk tk ts te st ins po fr to ln ea) (hk8 : TpW q C w len bs) (hlen : 0 ≤ len ∧ len ≤ 640) (hbs : ∀ k : Int, 0 ≤ k → k < 640 → 0 ≤ bs k ∧ bs k < 256) (hst : 0 ≤ st ∧ st ≤ 13) {dp : Int} (hp4 : ∃ (k : Nat) (fs : List Value), w[k]? = some (q 4, .inr (1, fs)) ∧ fs[0]? = some (.int (iI dp))) : CR l yX2_highestNumber wsX2_highestNumber 0 0 D C [.ref (q 3)] (w) (.int (iI (hiR st to ln dp))) := by
  obtain ⟨k3, h3⟩ := id hr9
  obtain ⟨⟨k1, h1⟩, ⟨k2, h2⟩⟩ := id hk8
  obtain ⟨k4, fs, h4, f4⟩ := id hp4
  refine CR_of (cc := cX2_highestNumber) (maxL := 1) (by decide) rfl (Nat.le_of_ble_eq_true rfl) ?_
  intro p e s m below meth c Q ls hx hb hml hown hts hK hNW hl hP hret
  have hl : lv_has ls 1 [(0, .ref (q 3))] := hl
  refine lv_aload_n hx hb dX2_highestNumber_0 rfl (lv_at hl 0 rfl) ?_
  refine va_get (D := D) (ci := 2) (v := .int (iI (st))) (C := RX2) (T := TX2) (N := 13) hx hb hts (by decide +kernel) hown hK hP k3 h3 rfl 6 (by decide) (hts (.fieldLink RX2 24 "BreakSetter$Reader" "state" "I") (by decide +kernel)) (fun _ h9 => h9) rfl dX2_highestNumber_1 ?_
  by_cases hsw : 5 ≤ st ∧ st ≤ 13
  · skip
    obtain ⟨hsw1, hsw2⟩ := hsw
    rcases (show st = 5 ∨ st = 6 ∨ st = 7 ∨ st = 8 ∨ st = 9 ∨ st = 10 ∨ st = 11 ∨ st = 12 ∨ st = 13 by omega) with hsw | hsw | hsw | hsw | hsw | hsw | hsw | hsw | hsw
    · skip
      refine j_swIn (k := 5) (off := 52) (tgt := 56) hx hb dX2_highestNumber_4 hsw (by decide) (by decide) rfl rfl ?_
      refine lv_iconst (v := iI (3)) hx hb dX2_highestNumber_56 rfl ?_
      exact hret ls 57 _ dX2_highestNumber_57 (congrArg iI (hiR_5 (by omega)).symm)
    · skip
      refine j_swIn (k := 6) (off := 54) (tgt := 58) hx hb dX2_highestNumber_4 hsw (by decide) (by decide) rfl rfl ?_
      refine lv_iconst (v := iI (4)) hx hb dX2_highestNumber_58 rfl ?_
      exact hret ls 59 _ dX2_highestNumber_59 (congrArg iI (hiR_6 (by omega)).symm)
    · skip
      refine j_swIn (k := 7) (off := 56) (tgt := 60) hx hb dX2_highestNumber_4 hsw (by decide) (by decide) rfl rfl ?_
      refine lv_aload_n hx hb dX2_highestNumber_60 rfl (lv_at hl 0 rfl) ?_
      refine va_get (D := D) (ci := 2) (v := .ref (q 4)) (C := RX2) (T := TX2) (N := 13) hx hb hts (by decide +kernel) hown hK hP k3 h3 rfl 1 (by decide) (hts (.fieldLink RX2 15 "BreakSetter$Reader" "draft" "LBreakSetter$Plan;") (by decide +kernel)) (fun _ h9 => h9) rfl dX2_highestNumber_61 ?_
      refine va_get (D := D) (ci := 1) (v := .int (iI (dp))) (C := RX1) (T := TX1) (N := 17) hx hb hts (by decide +kernel) hown hK hP k4 h4 rfl 0 (by decide) (hts (.fieldLink RX2 147 "BreakSetter$Plan" "posts" "I") (by decide +kernel)) (fun _ h9 => h9) f4 dX2_highestNumber_64 ?_
      refine lv_iconst (v := iI (1)) hx hb dX2_highestNumber_67 rfl ?_
      refine j_isub hx hb dX2_highestNumber_68 ?_
      exact hret ls 69 _ dX2_highestNumber_69 (congrArg iI (hiR_7 (by omega)).symm)
    · skip
      refine j_swIn (k := 8) (off := 88) (tgt := 92) hx hb dX2_highestNumber_4 hsw (by decide) (by decide) rfl rfl ?_
      refine lv_bipush (v := iI (47)) hx hb dX2_highestNumber_92 (by decide) ?_
      exact hret ls 94 _ dX2_highestNumber_94 (congrArg iI (hiR_d (by omega)).symm)
    · skip
      refine j_swIn (k := 9) (off := 88) (tgt := 92) hx hb dX2_highestNumber_4 hsw (by decide) (by decide) rfl rfl ?_
      refine lv_bipush (v := iI (47)) hx hb dX2_highestNumber_92 (by decide) ?_
      exact hret ls 94 _ dX2_highestNumber_94 (congrArg iI (hiR_d (by omega)).symm)
    · skip
      refine j_swIn (k := 10) (off := 66) (tgt := 70) hx hb dX2_highestNumber_4 hsw (by decide) (by decide) rfl rfl ?_
      refine lv_bipush (v := iI (9)) hx hb dX2_highestNumber_70 (by decide) ?_
      exact hret ls 72 _ dX2_highestNumber_72 (congrArg iI (hiR_10 (by omega)).symm)
    · skip
      refine j_swIn (k := 11) (off := 69) (tgt := 73) hx hb dX2_highestNumber_4 hsw (by decide) (by decide) rfl rfl ?_
      refine lv_iconst (v := iI (4)) hx hb dX2_highestNumber_73 rfl ?_
      exact hret ls 74 _ dX2_highestNumber_74 (congrArg iI (hiR_11 (by omega)).symm)
    · skip
      refine j_swIn (k := 12) (off := 71) (tgt := 75) hx hb dX2_highestNumber_4 hsw (by decide) (by decide) rfl rfl ?_
      refine lv_aload_n hx hb dX2_highestNumber_75 rfl (lv_at hl 0 rfl) ?_
      refine va_get (D := D) (ci := 2) (v := .int (iI (to))) (C := RX2) (T := TX2) (N := 13) hx hb hts (by decide +kernel) hown hK hP k3 h3 rfl 10 (by decide) (hts (.fieldLink RX2 149 "BreakSetter$Reader" "to" "I") (by decide +kernel)) (fun _ h9 => h9) rfl dX2_highestNumber_76 ?_
      exact hret ls 79 _ dX2_highestNumber_79 (congrArg iI (hiR_12 (by omega)).symm)
    · skip
      refine j_swIn (k := 13) (off := 76) (tgt := 80) hx hb dX2_highestNumber_4 hsw (by decide) (by decide) rfl rfl ?_
      refine lv_aload_n hx hb dX2_highestNumber_80 rfl (lv_at hl 0 rfl) ?_
      refine va_get (D := D) (ci := 2) (v := .int (iI (to))) (C := RX2) (T := TX2) (N := 13) hx hb hts (by decide +kernel) hown hK hP k3 h3 rfl 10 (by decide) (hts (.fieldLink RX2 149 "BreakSetter$Reader" "to" "I") (by decide +kernel)) (fun _ h9 => h9) rfl dX2_highestNumber_81 ?_
      refine lv_aload_n hx hb dX2_highestNumber_84 rfl (lv_at hl 0 rfl) ?_
      refine va_get (D := D) (ci := 2) (v := .int (iI (ln))) (C := RX2) (T := TX2) (N := 13) hx hb hts (by decide +kernel) hown hK hP k3 h3 rfl 11 (by decide) (hts (.fieldLink RX2 152 "BreakSetter$Reader" "length" "I") (by decide +kernel)) (fun _ h9 => h9) rfl dX2_highestNumber_85 ?_
      refine j_isub hx hb dX2_highestNumber_88 ?_
      refine lv_iconst (v := iI (1)) hx hb dX2_highestNumber_89 rfl ?_
      refine j_iadd hx hb dX2_highestNumber_90 ?_
      exact hret ls 91 _ dX2_highestNumber_91 (congrArg iI (hiR_13 (by omega)).symm)
  · skip
    refine j_swOut (tgt := 92) hx hb dX2_highestNumber_4 ⟨by omega, by omega⟩ (by omega) rfl ?_
    refine lv_bipush (v := iI (47)) hx hb dX2_highestNumber_92 (by decide) ?_
    exact hret ls 94 _ dX2_highestNumber_94 (congrArg iI (hiR_d (by omega)).symm)

set_option maxHeartbeats 4000000 in
set_option maxRecDepth 100000 in
theorem c_X2_isToken {K V : Nat → Nat} {l : Launch} {D : va_G} {C : Nat → ClassId} {q : Nat → Nat} {w : va_W} {fk tk ts te st ins po fr to ln ea len : Int} {bs : Int → Int} (hr9 : RdW q C w fk tk ts te st ins po fr to ln ea) (hk8 : TpW q C w len bs) (hlen : 0 ≤ len ∧ len ≤ 640) (hbs : ∀ k : Int, 0 ≤ k → k < 640 → 0 ≤ bs k ∧ bs k < 256) {i : Nat} (hi : i < 4) (ht : 0 ≤ ts ∧ ts ≤ te ∧ te ≤ len) : CRX K V l yX2_isToken wsX2_isToken 4 85 D C [.ref (q 3), .ref (K i)] (w) (some (.int (iI (bI (spells bs ts te (wlS i)))))) := by
  obtain ⟨k3, h3⟩ := id hr9
  obtain ⟨⟨k1, h1⟩, ⟨k2, h2⟩⟩ := id hk8
  refine CRX_of (cc := cX2_isToken) (maxL := 3) (by decide) rfl (Nat.le_of_ble_eq_true rfl) (b01_n _) ?_
  intro p e s m below meth c Q ls hx hb hml hown hts hK hNW hX hl hP hret
  have hl : lv_has ls 3 [(0, .ref (q 3)), (1, .ref (K i))] := hl
  have sr := stN_r i hi
  have sl := wlS_n i hi
  refine lv_aload_n hx hb dX2_isToken_0 rfl (lv_at hl 1 rfl) ?_
  refine CRX_callV (As := []) (rest := []) ⟨hx, hb, hml, hown, hts⟩ (c_J0_length hi) (cwV 0 hts gX2_isToken_J0_length_8abf5 rfl rfl rfl (by decide +kernel) ⟨Nat.le_of_ble_eq_true rfl, Nat.le_of_ble_eq_true rfl⟩) (st_recv hX hi va_S.rf) hK hNW hX va_S.rf hP rfl hl.1 rfl (Nat.le_of_ble_eq_true rfl) dX2_isToken_1 ⟨Nat.zero_le _, Nat.zero_le _⟩ ?_
  refine lv_aload_n hx hb dX2_isToken_4 rfl (lv_at hl 0 rfl) ?_
  refine va_get (D := D) (ci := 2) (v := .int (iI (te))) (C := RX2) (T := TX2) (N := 13) hx hb hts (by decide +kernel) hown hK hP k3 h3 rfl 5 (by decide) (hts (.fieldLink RX2 32 "BreakSetter$Reader" "tokenEnd" "I") (by decide +kernel)) (fun _ h9 => h9) rfl dX2_isToken_5 ?_
  refine lv_aload_n hx hb dX2_isToken_8 rfl (lv_at hl 0 rfl) ?_
  refine va_get (D := D) (ci := 2) (v := .int (iI (ts))) (C := RX2) (T := TX2) (N := 13) hx hb hts (by decide +kernel) hown hK hP k3 h3 rfl 4 (by decide) (hts (.fieldLink RX2 43 "BreakSetter$Reader" "tokenStart" "I") (by decide +kernel)) (fun _ h9 => h9) rfl dX2_isToken_9 ?_
  refine j_isub hx hb dX2_isToken_12 ?_
  refine j_icmp_eq (tgt := 18) hx hb dX2_isToken_13 rfl ⟨by omega, by omega⟩ ⟨by omega, by omega⟩ (fun c13 => ?_) (fun c13 => ?_)
  · skip
    refine lv_iconst (v := iI (0)) hx hb dX2_isToken_18 rfl ?_
    refine lv_istore_n (lv' := [(2, .int (iI (0))), (0, .ref (q 3)), (1, .ref (K i))]) hx hb dX2_isToken_19 rfl hl (by decide) rfl (fun ls hl => ?_)
    have L20 : ∀ (n : Nat) (j : Int) (ls : Array Slot), (0 ≤ j ∧ j ≤ stN i) → (∀ k : Nat, (k : Int) < j → bs (ts + k) = (wlS i).getD k 0) → ((stN i - j).toNat < n) → (lv_has ls 3 [(2, .int (iI (j))), (0, .ref (q 3)), (1, .ref (K i))]) → W p l e (rmN 4 85) s m ([.ref (q 3), .ref (K i)] : List Value).toArray below meth c s.heap [] 0 0 Q (F0 m 20 ls []) := by
      intro n
      induction n with
      | zero => intro j ls j1 j2 hn; exact absurd hn (Nat.not_lt_zero _)
      | succ n ih20 =>
        intro j ls j1 j2 hn hl
        have hn20 := hn
        refine lv_iload_n hx hb dX2_isToken_20 rfl (lv_at hl 0 rfl) ?_
        refine lv_aload_n hx hb dX2_isToken_21 rfl (lv_at hl 2 rfl) ?_
        refine CRX_callV (As := []) (rest := [.int (iI (j))]) ⟨hx, hb, hml, hown, hts⟩ (c_J0_length hi) (cwV 0 hts gX2_isToken_J0_length_8abf5 rfl rfl rfl (by decide +kernel) ⟨Nat.le_of_ble_eq_true rfl, Nat.le_of_ble_eq_true rfl⟩) (st_recv hX hi va_S.rf) hK hNW hX va_S.rf hP rfl hl.1 rfl (Nat.le_of_ble_eq_true rfl) dX2_isToken_22 ⟨Nat.zero_le _, Nat.zero_le _⟩ ?_
        refine j_icmp_ge (tgt := 57) hx hb dX2_isToken_25 rfl ⟨by omega, by omega⟩ ⟨by omega, by omega⟩ (fun c25 => ?_) (fun c25 => ?_)
        · skip
          refine lv_iconst (v := iI (1)) hx hb dX2_isToken_57 rfl ?_
          exact hret ls 58 _ dX2_isToken_58 (by rw [bI_t ⟨by rw [sl]; omega, fun k hk => j2 k (by have := sl; omega)⟩])
        · skip
          have tb := hbs (ts + j) (by omega) (by omega)
          have wr := wlS_r i hi j.toNat
          refine lv_aload_n hx hb dX2_isToken_28 rfl (lv_at hl 1 rfl) ?_
          refine va_get (D := D) (ci := 2) (v := .ref (q 1)) (C := RX2) (T := TX2) (N := 13) hx hb hts (by decide +kernel) hown hK hP k3 h3 rfl 0 (by decide) (hts (.fieldLink RX2 9 "BreakSetter$Reader" "tape" "LBreakSetter$Tape;") (by decide +kernel)) (fun _ h9 => h9) rfl dX2_isToken_29 ?_
          refine lv_aload_n hx hb dX2_isToken_32 rfl (lv_at hl 1 rfl) ?_
          refine va_get (D := D) (ci := 2) (v := .int (iI (ts))) (C := RX2) (T := TX2) (N := 13) hx hb hts (by decide +kernel) hown hK hP k3 h3 rfl 4 (by decide) (hts (.fieldLink RX2 43 "BreakSetter$Reader" "tokenStart" "I") (by decide +kernel)) (fun _ h9 => h9) rfl dX2_isToken_33 ?_
          refine lv_iload_n hx hb dX2_isToken_36 rfl (lv_at hl 0 rfl) ?_
          refine j_iadd hx hb dX2_isToken_37 ?_
          refine CR_callV (As := [.int (iI (ts + j))]) (rest := []) ⟨hx, hb, hml, hown, hts⟩ (c_X4_byteAt hk8 hlen hbs ⟨by omega, by omega⟩) (cwV 1 hts gX2_isToken_X4_byteAt rfl rfl rfl (by decide +kernel) ⟨Nat.le_of_ble_eq_true rfl, Nat.le_of_ble_eq_true rfl⟩) (q0 := k1) h1 rfl rfl hK hNW hP rfl hl.1 rfl (Nat.le_of_ble_eq_true rfl) dX2_isToken_38 ⟨Nat.zero_le _, Nat.zero_le _⟩ ?_
          refine W_wen (y := iI (bs (ts + j))) (congrArg iI (bAt_in (by omega) (by omega))) ?_
          refine lv_aload_n hx hb dX2_isToken_41 rfl (lv_at hl 2 rfl) ?_
          refine lv_iload_n hx hb dX2_isToken_42 rfl (lv_at hl 0 rfl) ?_
          refine CRX_callV (As := [.int (iI (j))]) (rest := [.int (iI (bs (ts + j)))]) ⟨hx, hb, hml, hown, hts⟩ (c_J0_charAt hi ⟨by omega, by omega⟩) (cwV 1 hts gX2_isToken_J0_charAt_5068e rfl rfl rfl (by decide +kernel) ⟨Nat.le_of_ble_eq_true rfl, Nat.le_of_ble_eq_true rfl⟩) (st_recv hX hi va_S.rf) hK hNW hX va_S.rf hP rfl hl.1 rfl (Nat.le_of_ble_eq_true rfl) dX2_isToken_43 ⟨Nat.zero_le _, Nat.zero_le _⟩ ?_
          refine W_wen (y := iI ((wlS i).getD j.toNat 0)) (stC_w i hi j.toNat (by omega)) ?_
          refine j_icmp_eq (tgt := 51) hx hb dX2_isToken_46 rfl ⟨by omega, by omega⟩ ⟨by omega, by omega⟩ (fun c46 => ?_) (fun c46 => ?_)
          · skip
            refine j_iinc (k := 0) (lv' := [(2, .int (iI (j + 1))), (0, .ref (q 3)), (1, .ref (K i))]) hx hb dX2_isToken_51 hl rfl (by decide) rfl (fun ls hl => ?_)
            refine lv_goto (tgt := 20) hx hb dX2_isToken_54 rfl ?_
            exact ih20 (j + 1) ls (by omega) (fun k a => by by_cases e9 : (k : Int) = j; (rw [e9, c46]; exact congrArg (fun z => (wlS i).getD z 0) (by omega)); (exact j2 k (by omega))) (by omega) (lv_sub hl [0, 1, 2] rfl)
          · skip
            refine lv_iconst (v := iI (0)) hx hb dX2_isToken_49 rfl ?_
            exact hret ls 50 _ dX2_isToken_50 (by rw [bI_f (fun q => c46 (by have z := q.2 j.toNat (by have := sl; omega); rw [show ts + ((j.toNat : Nat) : Int) = ts + j by omega] at z; exact z))])
    exact L20 _ 0 ls (by omega) (fun k a => absurd a (by omega)) (Nat.lt_succ_self _) (lv_sub hl [0, 1, 2] rfl)
  · skip
    refine lv_iconst (v := iI (0)) hx hb dX2_isToken_16 rfl ?_
    exact hret ls 17 _ dX2_isToken_17 (by rw [bI_f (fun q => c13 (by have z := q.1; rw [sl] at z; omega))])
