/-! rows copied by the machine -/
def cpy (f g : Int → Int) (sp dp n : Int) : Int → Int := fun k => if dp ≤ k ∧ k < dp + n then f (sp + (k - dp)) else g k
section JR4
variable {p : Program} {l : Launch} {e : Env} {R : Room} {s : State} {m : MethodId} {args : Array Value} {below : List Frame} {meth : Method} {c : Code} {H : Heap} {locs : List Loc} {cells slots : Nat} {Q : State → Prop}
variable {cc : ByteArray} {pc : Nat} {ls : Array Slot} {rest : List Value} {D : va_G} {cl : List vw_C} {A : Nat → Prop} {a a0 : Nat} {ws : va_W} {H0 : Heap} {C : Nat → ClassId}
theorem j_copy (hx : p.tables.exec = Jvm.exec) (hb : c.code = cc) (hml : c.maxLocals = ls.size) {own : String} {index : Nat} (hown : s.vm.findClass own = some m.cls) (hlink : (Cond.methodLink own index arraycopyName).before args s = true) (hnat : (Cond.native arraycopyName).before args s = true) (hstat : (Cond.static arraycopyName).before args s = true) (hini : (Cond.initialized "java/lang/System").before args s = true)
    (hK : va_K D cl (ty4 C) s) (hP : va_P D cl ws H) (hD : va_D A ws) (hS : va_S A H0 H locs) (q0 q1 : Nat) {n0 n1 : Nat} {f g : Int → Int} (ha0 : ws[q0]? = some (a0, .inl (C 1, n0, .inl (aI f)))) (ha1 : ws[q1]? = some (a, .inl (C 1, n1, .inl (aI g)))) {tt : Bool} (htt : tt = true)
    {sp dp n : Int} (h1 : 0 ≤ sp ∧ 0 ≤ dp ∧ 0 ≤ n) (h2 : sp + n ≤ (n0 : Int) ∧ dp + n ≤ (n1 : Int)) (hn0 : n0 ≤ 100000) (hn1 : n1 ≤ 100000)
    (hframes : 1 ≤ R.frames) (hlocals : (rest.map fun v => v.category).sum + (nativeFrameWords "java/lang/System" "arraycopy" 5 + 11) ≤ R.locals) (d : decode cc pc = .ok (.invokestatic index, 3))
    (kk : ∀ (H1 : Heap) (locs1 : List Loc), va_P D cl (ws.set q1 (a, .inl (C 1, n1, .inl (aI (cpy f g sp dp n))))) H1 → va_D A (ws.set q1 (a, .inl (C 1, n1, .inl (aI (cpy f g sp dp n))))) → va_S A H0 H1 locs1 → W p l e R s m args below meth c H1 locs1 cells slots Q (F0 m (pc + 3) ls rest)) : W p l e R s m args below meth c H locs cells slots Q (F0 m pc ls (.int (iI n) :: .int (iI dp) :: .ref a :: .int (iI sp) :: .ref a0 :: rest)) := by
  have nn : ∀ z : Int, 0 ≤ z → z < 2147483648 → ¬ iI z < 0 := fun z z0 z1 q => by
    rw [iI_0, iI_lt ⟨by omega, z1⟩ ⟨by decide, by decide⟩] at q
    omega
  have e : va_cpy (aI f) (aI g) (iI sp).toNatClampNeg (iI dp).toNatClampNeg (iI n).toNatClampNeg = aI (cpy f g sp dp n) := by
    rw [iI_cl h1.1 (by omega), iI_cl h1.2.1 (by omega), iI_cl h1.2.2 (by omega)]
    funext k
    show (if dp.toNat ≤ k ∧ k < dp.toNat + n.toNat then iI (f ((sp.toNat + (k - dp.toNat) : Nat) : Int)) else iI (g k)) = iI (if dp ≤ (k : Int) ∧ (k : Int) < dp + n then f (sp + ((k : Int) - dp)) else g k)
    by_cases x : dp ≤ (k : Int) ∧ (k : Int) < dp + n
    · rw [if_pos x, if_pos (by omega), show ((sp.toNat + (k - dp.toNat) : Nat) : Int) = sp + ((k : Int) - dp) by omega]
    · rw [if_neg x, if_neg (by omega)]
  refine va_copyi hx hb hml hown hlink hnat hstat hini hK hP hD hS q0 q1 1 1 (ty := .int) ha0 ha1 rfl rfl rfl (nn sp h1.1 (by omega)) (nn dp h1.2.1 (by omega)) (nn n h1.2.2 (by omega)) (by rw [iI_cl h1.1 (by omega), iI_cl h1.2.2 (by omega)]; omega) (by rw [iI_cl h1.2.1 (by omega), iI_cl h1.2.2 (by omega)]; omega) (fun _ _ => rfl) hframes hlocals d (fun H1 locs1 => by rw [e]; exact kk H1 locs1)
end JR4
