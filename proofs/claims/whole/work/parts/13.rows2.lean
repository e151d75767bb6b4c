/-! quotient and rest by 100; the bytes of a number -/
theorem iI_div100 {b k t : Int} (h : b = 100 * k + t) (hk : 0 ≤ k ∧ k ≤ 100) (ht : 0 ≤ t ∧ t < 100) : iI b / iI 100 = iI k := by
  apply Int32.toInt_inj.mp
  rw [Int32.toInt_div_of_ne_right _ _ (by decide), iI_toInt ⟨by omega, by omega⟩, iI_toInt ⟨by omega, by omega⟩, iI_toInt ⟨by omega, by omega⟩, Int.tdiv_eq_ediv_of_nonneg (by omega)]
  omega
section JR3
variable {p : Program} {l : Launch} {e : Env} {R : Room} {s : State} {m : MethodId} {args : Array Value} {below : List Frame} {meth : Method} {c : Code} {H : Heap} {locs : List Loc} {cells slots : Nat} {Q : State → Prop}
variable {cc : ByteArray} {pc : Nat} {ls : Array Slot} {rest : List Value}
theorem j_div100 (hx : p.tables.exec = Jvm.exec) (hb : c.code = cc) {b k t : Int} (h : b = 100 * k + t) (hk : 0 ≤ k ∧ k ≤ 100) (ht : 0 ≤ t ∧ t < 100) (d : decode cc pc = .ok (.idiv, 1)) (kk : W p l e R s m args below meth c H locs cells slots Q (F0 m (pc + 1) ls (.int (iI k) :: rest))) : W p l e R s m args below meth c H locs cells slots Q (F0 m pc ls (.int (iI 100) :: .int (iI b) :: rest)) := lv_idiv hx hb d (by decide) (W_wen (iI_div100 h hk ht) kk)
theorem j_rem100 (hx : p.tables.exec = Jvm.exec) (hb : c.code = cc) {b k t : Int} (h : b = 100 * k + t) (hk : 0 ≤ k ∧ k ≤ 100) (ht : 0 ≤ t ∧ t < 100) (d : decode cc pc = .ok (.irem, 1)) (kk : W p l e R s m args below meth c H locs cells slots Q (F0 m (pc + 1) ls (.int (iI t) :: rest))) : W p l e R s m args below meth c H locs cells slots Q (F0 m pc ls (.int (iI 100) :: .int (iI b) :: rest)) := lv_irem hx hb d (by decide) (W_wen (by rw [iI_div100 h hk ht, iI_mul, iI_sub]; exact congrArg iI (by omega)) kk)
end JR3
def by4 (z : Int) (k : Nat) : Int := (((iI z).toBitVec.toNat / 2 ^ k % 256 : Nat) : Int)
theorem by4_rng (z : Int) (k : Nat) : 0 ≤ by4 z k ∧ by4 z k < 256 := by
  have h : (iI z).toBitVec.toNat / 2 ^ k % 256 < 256 := Nat.mod_lt _ (by decide)
  unfold by4
  omega
theorem nI_iI {n : Nat} : nI n = iI (n : Int) := by
  show Int32.ofNat n = Int32.ofInt (n : Int)
  rfl
theorem by4_u (z : Int) (k : Nat) (s : Int32) (hs : ((s.toUInt32 &&& Int32.toUInt32 31).toBitVec % 32).toNat = k) : ((iI z).toUInt32 >>> (s.toUInt32 &&& Int32.toUInt32 31)).toInt32 &&& iI 255 = iI (by4 z k) := by
  rw [pk_and _ (m := iI 255) 8 (by decide), pk_ushr _ _ k hs]
  exact nI_iI
/-- four bytes of a number, the highest first -/
def lay4 (tp : Int → Int) (a z : Int) : Int → Int := up (up (up (up tp a (by4 z 24)) (a + 1) (by4 z 16)) (a + 1 + 1) (by4 z 8)) (a + 1 + 1 + 1) (by4 z 0)
def lay20 (tp : Int → Int) (a z1 z2 z3 z4 z5 : Int) : Int → Int := lay4 (lay4 (lay4 (lay4 (lay4 tp a z1) (a + 4) z2) (a + 4 + 4) z3) (a + 4 + 4 + 4) z4) (a + 4 + 4 + 4 + 4) z5
