/-! the law's world: the reference, BreakSetter, the long row; what holds of them between two steps -/
abbrev CS : Type := (Int × Int × Int × Int × Int × Int × Int × Int × Int × Int × Int) × (Int × (Int → Int)) × (Int × Int × Int × Int × Int × Int × (Int → Int) × (Int → Int) × (Int → Int) × (Int → Int) × (Int → Int) × (Int → Int) × (Int → Int) × (Int → Int) × (Int → Int) × (Int → Int) × (Int → Int)) × (Int × Int × Int × Int × Int × Int × (Int → Int) × (Int → Int) × (Int → Int) × (Int → Int) × (Int → Int) × (Int → Int) × (Int → Int) × (Int → Int) × (Int → Int) × (Int → Int) × (Int → Int)) × (Int × (Int → Int) × (Int → Int)) × ((Int → Int) × Int × Int) × Int × ((Int → Int) × (Int → Int))
abbrev CS.fk (x : CS) : Int := x.1.1
abbrev CS.tk (x : CS) : Int := x.1.2.1
abbrev CS.ts (x : CS) : Int := x.1.2.2.1
abbrev CS.te (x : CS) : Int := x.1.2.2.2.1
abbrev CS.st (x : CS) : Int := x.1.2.2.2.2.1
abbrev CS.ins (x : CS) : Int := x.1.2.2.2.2.2.1
abbrev CS.po (x : CS) : Int := x.1.2.2.2.2.2.2.1
abbrev CS.fr (x : CS) : Int := x.1.2.2.2.2.2.2.2.1
abbrev CS.to (x : CS) : Int := x.1.2.2.2.2.2.2.2.2.1
abbrev CS.ln (x : CS) : Int := x.1.2.2.2.2.2.2.2.2.2.1
abbrev CS.ea (x : CS) : Int := x.1.2.2.2.2.2.2.2.2.2.2
abbrev CS.len (x : CS) : Int := x.2.1.1
abbrev CS.bs (x : CS) : (Int → Int) := x.2.1.2
abbrev CS.dp (x : CS) : Int := x.2.2.1.1
abbrev CS.dw (x : CS) : Int := x.2.2.1.2.1
abbrev CS.dl (x : CS) : Int := x.2.2.1.2.2.1
abbrev CS.dn (x : CS) : Int := x.2.2.1.2.2.2.1
abbrev CS.ds (x : CS) : Int := x.2.2.1.2.2.2.2.1
abbrev CS.dk (x : CS) : Int := x.2.2.1.2.2.2.2.2.1
abbrev CS.a0 (x : CS) : (Int → Int) := x.2.2.1.2.2.2.2.2.2.1
abbrev CS.a1 (x : CS) : (Int → Int) := x.2.2.1.2.2.2.2.2.2.2.1
abbrev CS.a2 (x : CS) : (Int → Int) := x.2.2.1.2.2.2.2.2.2.2.2.1
abbrev CS.a3 (x : CS) : (Int → Int) := x.2.2.1.2.2.2.2.2.2.2.2.2.1
abbrev CS.a4 (x : CS) : (Int → Int) := x.2.2.1.2.2.2.2.2.2.2.2.2.2.1
abbrev CS.a5 (x : CS) : (Int → Int) := x.2.2.1.2.2.2.2.2.2.2.2.2.2.2.1
abbrev CS.a6 (x : CS) : (Int → Int) := x.2.2.1.2.2.2.2.2.2.2.2.2.2.2.2.1
abbrev CS.a7 (x : CS) : (Int → Int) := x.2.2.1.2.2.2.2.2.2.2.2.2.2.2.2.2.1
abbrev CS.a8 (x : CS) : (Int → Int) := x.2.2.1.2.2.2.2.2.2.2.2.2.2.2.2.2.2.1
abbrev CS.a9 (x : CS) : (Int → Int) := x.2.2.1.2.2.2.2.2.2.2.2.2.2.2.2.2.2.2.1
abbrev CS.aA (x : CS) : (Int → Int) := x.2.2.1.2.2.2.2.2.2.2.2.2.2.2.2.2.2.2.2
abbrev CS.pp (x : CS) : Int := x.2.2.2.1.1
abbrev CS.pw (x : CS) : Int := x.2.2.2.1.2.1
abbrev CS.pl (x : CS) : Int := x.2.2.2.1.2.2.1
abbrev CS.pn (x : CS) : Int := x.2.2.2.1.2.2.2.1
abbrev CS.ps (x : CS) : Int := x.2.2.2.1.2.2.2.2.1
abbrev CS.pk (x : CS) : Int := x.2.2.2.1.2.2.2.2.2.1
abbrev CS.p0 (x : CS) : (Int → Int) := x.2.2.2.1.2.2.2.2.2.2.1
abbrev CS.p1 (x : CS) : (Int → Int) := x.2.2.2.1.2.2.2.2.2.2.2.1
abbrev CS.p2 (x : CS) : (Int → Int) := x.2.2.2.1.2.2.2.2.2.2.2.2.1
abbrev CS.p3 (x : CS) : (Int → Int) := x.2.2.2.1.2.2.2.2.2.2.2.2.2.1
abbrev CS.p4 (x : CS) : (Int → Int) := x.2.2.2.1.2.2.2.2.2.2.2.2.2.2.1
abbrev CS.p5 (x : CS) : (Int → Int) := x.2.2.2.1.2.2.2.2.2.2.2.2.2.2.2.1
abbrev CS.p6 (x : CS) : (Int → Int) := x.2.2.2.1.2.2.2.2.2.2.2.2.2.2.2.2.1
abbrev CS.p7 (x : CS) : (Int → Int) := x.2.2.2.1.2.2.2.2.2.2.2.2.2.2.2.2.2.1
abbrev CS.p8 (x : CS) : (Int → Int) := x.2.2.2.1.2.2.2.2.2.2.2.2.2.2.2.2.2.2.1
abbrev CS.p9 (x : CS) : (Int → Int) := x.2.2.2.1.2.2.2.2.2.2.2.2.2.2.2.2.2.2.2.1
abbrev CS.pA (x : CS) : (Int → Int) := x.2.2.2.1.2.2.2.2.2.2.2.2.2.2.2.2.2.2.2.2
abbrev CS.sf (x : CS) : Int := x.2.2.2.2.1.1
abbrev CS.pla (x : CS) : (Int → Int) := x.2.2.2.2.1.2.1
abbrev CS.cv (x : CS) : (Int → Int) := x.2.2.2.2.1.2.2
abbrev CS.rows (x : CS) : (Int → Int) := x.2.2.2.2.2.1.1
abbrev CS.nr (x : CS) : Int := x.2.2.2.2.2.1.2.1
abbrev CS.cn (x : CS) : Int := x.2.2.2.2.2.1.2.2
abbrev CS.lf (x : CS) : Int := x.2.2.2.2.2.2.1
abbrev CS.hp (x : CS) : (Int → Int) := x.2.2.2.2.2.2.2.1
abbrev CS.nx (x : CS) : (Int → Int) := x.2.2.2.2.2.2.2.2
abbrev MS : Type := Int × Int × Int × Int × (Int → Int) × (Int → Int) × (Int → Int) × Int64 × (Nat → Int) × (Nat → Int → Int)
abbrev MS.th (y : MS) : Int := y.1
abbrev MS.ta (y : MS) : Int := y.2.1
abbrev MS.fa (y : MS) : Int := y.2.2.1
abbrev MS.sm (y : MS) : Int := y.2.2.2.1
abbrev MS.tape (y : MS) : (Int → Int) := y.2.2.2.2.1
abbrev MS.now (y : MS) : (Int → Int) := y.2.2.2.2.2.1
abbrev MS.snaps (y : MS) : (Int → Int) := y.2.2.2.2.2.2.1
abbrev MS.wo (y : MS) : Int64 := y.2.2.2.2.2.2.2.1
abbrev MS.sc (y : MS) : (Nat → Int) := y.2.2.2.2.2.2.2.2.1
abbrev MS.sa (y : MS) : (Nat → Int → Int) := y.2.2.2.2.2.2.2.2.2
abbrev xRd (q : Nat → Nat) (C : Nat → ClassId) (x : CS) : va_W := wRd q C x.fk x.tk x.ts x.te x.st x.ins x.po x.fr x.to x.ln x.ea
abbrev xTp (q : Nat → Nat) (C : Nat → ClassId) (x : CS) : va_W := wTp q C x.len x.bs
abbrev xDr (q : Nat → Nat) (C : Nat → ClassId) (x : CS) : va_W := wDr q C x.dp x.dw x.dl x.dn x.ds x.dk x.a0 x.a1 x.a2 x.a3 x.a4 x.a5 x.a6 x.a7 x.a8 x.a9 x.aA
abbrev xPl (q : Nat → Nat) (C : Nat → ClassId) (x : CS) : va_W := wPl q C x.pp x.pw x.pl x.pn x.ps x.pk x.p0 x.p1 x.p2 x.p3 x.p4 x.p5 x.p6 x.p7 x.p8 x.p9 x.pA
abbrev xRo (q : Nat → Nat) (C : Nat → ClassId) (x : CS) : va_W := wRo q C x.sf x.pla x.cv
abbrev xHi (q : Nat → Nat) (C : Nat → ClassId) (x : CS) : va_W := wHi q C x.rows x.nr x.cn
abbrev xBS (q : Nat → Nat) (C : Nat → ClassId) (x : CS) : va_W := wBS q C x.lf
abbrev xWk (q : Nat → Nat) (C : Nat → ClassId) (x : CS) : va_W := wWk q C x.hp x.nx
abbrev yM (q : Nat → Nat) (C : Nat → ClassId) (y : MS) : va_W := wM q C y.th y.ta y.fa y.sm y.tape y.now y.snaps y.wo y.sc y.sa
def LW (q : Nat → Nat) (C : Nat → ClassId) (x : CS) (y : MS) (ol : Nat) (fo : Nat → Int64) : va_W := yM q C y ++ (xRd q C x ++ xTp q C x ++ xDr q C x ++ xPl q C x ++ xRo q C x ++ xHi q C x ++ xBS q C x ++ (xWk q C x ++ wO ol C fo))
theorem pmx {α : Type} {l1 l2 : List α} (h : ∀ [BEq α] [LawfulBEq α] (z : α), l1.count z = l2.count z) : l1.Perm l2 := by
  classical
  exact List.perm_iff_count.mpr (fun z => h z)
section PL
variable (m a b c d e f g h k : va_W)
theorem pL_T : (m ++ (a ++ b ++ c ++ d ++ e ++ f ++ g ++ (h ++ k))).Perm ((a ++ b ++ c ++ d ++ e ++ f ++ g) ++ (m ++ (h ++ k))) := pmx (fun z => by simp only [List.count_append]; omega)
theorem pL_F : (m ++ (a ++ b ++ c ++ d ++ e ++ f ++ g ++ (h ++ k))).Perm ((g ++ b) ++ (m ++ (a ++ c ++ d ++ e ++ f ++ (h ++ k)))) := pmx (fun z => by simp only [List.count_append]; omega)
theorem pL_R : (m ++ (a ++ b ++ c ++ d ++ e ++ f ++ g ++ (h ++ k))).Perm ((g ++ h ++ (m ++ (a ++ b ++ c ++ d ++ e ++ f ++ k))) ++ []) := pmx (fun z => by simp only [List.count_append, List.count_nil]; omega)
theorem pL_A : (m ++ (a ++ b ++ c ++ d ++ e ++ f ++ g ++ (h ++ k))).Perm ((g ++ f ++ e ++ (m ++ (a ++ b ++ c ++ d ++ (h ++ k)))) ++ []) := pmx (fun z => by simp only [List.count_append, List.count_nil]; omega)
theorem pL_S : (m ++ (a ++ b ++ c ++ d ++ e ++ f ++ g ++ (h ++ k))).Perm ((m ++ (a ++ b ++ c ++ d ++ e ++ f ++ g ++ h)) ++ k) := pmx (fun z => by simp only [List.count_append]; omega)
theorem pL_O : (m ++ (a ++ b ++ c ++ d ++ e ++ f ++ g ++ (h ++ k))).Perm (k ++ (m ++ (a ++ b ++ c ++ d ++ e ++ f ++ g ++ h))) := pmx (fun z => by simp only [List.count_append]; omega)
end PL
abbrev INV (q : Nat → Nat) (C : Nat → ClassId) (x : CS) (y : MS) : Prop := (x.bs = y.tape) ∧ (x.len = y.ta) ∧ (0 ≤ x.len ∧ x.len ≤ 640) ∧ (∀ k : Int, 0 ≤ k → k < 640 → 0 ≤ x.bs k ∧ x.bs k < 256) ∧ (x.lf = y.fa) ∧ (x.cn = y.sm) ∧ (0 ≤ x.cn ∧ x.cn ≤ 10) ∧ (0 ≤ x.nr ∧ x.nr < 10) ∧ (Wf y.now) ∧ (PlW q C (xPl q C x) y.now) ∧ (Ro3 y.now (x.sf, x.pla, x.cv)) ∧ (HI x.rows x.nr x.cn y.snaps y.now)
theorem INV.bs {q : Nat → Nat} {C : Nat → ClassId} {x : CS} {y : MS} (I : INV q C x y) : x.bs = y.tape := I.1
theorem INV.len {q : Nat → Nat} {C : Nat → ClassId} {x : CS} {y : MS} (I : INV q C x y) : x.len = y.ta := I.2.1
theorem INV.lr {q : Nat → Nat} {C : Nat → ClassId} {x : CS} {y : MS} (I : INV q C x y) : 0 ≤ x.len ∧ x.len ≤ 640 := I.2.2.1
theorem INV.byt {q : Nat → Nat} {C : Nat → ClassId} {x : CS} {y : MS} (I : INV q C x y) : ∀ k : Int, 0 ≤ k → k < 640 → 0 ≤ x.bs k ∧ x.bs k < 256 := I.2.2.2.1
theorem INV.lf {q : Nat → Nat} {C : Nat → ClassId} {x : CS} {y : MS} (I : INV q C x y) : x.lf = y.fa := I.2.2.2.2.1
theorem INV.cn {q : Nat → Nat} {C : Nat → ClassId} {x : CS} {y : MS} (I : INV q C x y) : x.cn = y.sm := I.2.2.2.2.2.1
theorem INV.cr {q : Nat → Nat} {C : Nat → ClassId} {x : CS} {y : MS} (I : INV q C x y) : 0 ≤ x.cn ∧ x.cn ≤ 10 := I.2.2.2.2.2.2.1
theorem INV.nr {q : Nat → Nat} {C : Nat → ClassId} {x : CS} {y : MS} (I : INV q C x y) : 0 ≤ x.nr ∧ x.nr < 10 := I.2.2.2.2.2.2.2.1
theorem INV.wf {q : Nat → Nat} {C : Nat → ClassId} {x : CS} {y : MS} (I : INV q C x y) : Wf y.now := I.2.2.2.2.2.2.2.2.1
theorem INV.pl {q : Nat → Nat} {C : Nat → ClassId} {x : CS} {y : MS} (I : INV q C x y) : PlW q C (xPl q C x) y.now := I.2.2.2.2.2.2.2.2.2.1
theorem INV.ro {q : Nat → Nat} {C : Nat → ClassId} {x : CS} {y : MS} (I : INV q C x y) : Ro3 y.now (x.sf, x.pla, x.cv) := I.2.2.2.2.2.2.2.2.2.2.1
theorem INV.hi {q : Nat → Nat} {C : Nat → ClassId} {x : CS} {y : MS} (I : INV q C x y) : HI x.rows x.nr x.cn y.snaps y.now := I.2.2.2.2.2.2.2.2.2.2.2
theorem at_of {w w2 : va_W} (h : ∀ c ∈ w, c ∈ w2) {k : Nat} {c : Nat × va_E} (hk : w[k]? = some c) : ∃ k : Nat, w2[k]? = some c := List.mem_iff_getElem?.mp (h c (List.mem_of_getElem? hk))
theorem PlW_in {q : Nat → Nat} {C : Nat → ClassId} {w w2 : va_W} {g : Int → Int} (h : ∀ c ∈ w, c ∈ w2) (hw : PlW q C w g) : PlW q C w2 g := by
  obtain ⟨⟨k16, ln, nd, h16⟩, ⟨k17, f17, h17, e17⟩, ⟨k18, f18, h18, e18⟩, ⟨k19, f19, h19, e19⟩, ⟨k20, f20, h20, e20⟩, ⟨k21, f21, h21, e21⟩, ⟨k22, f22, h22, e22⟩, ⟨k23, f23, h23, e23⟩, ⟨k24, f24, h24, e24⟩, ⟨k25, f25, h25, e25⟩, ⟨k26, f26, h26, e26⟩, ⟨k27, f27, h27, e27⟩⟩ := hw
  obtain ⟨j16, i16⟩ := at_of h h16
  obtain ⟨j17, i17⟩ := at_of h h17
  obtain ⟨j18, i18⟩ := at_of h h18
  obtain ⟨j19, i19⟩ := at_of h h19
  obtain ⟨j20, i20⟩ := at_of h h20
  obtain ⟨j21, i21⟩ := at_of h h21
  obtain ⟨j22, i22⟩ := at_of h h22
  obtain ⟨j23, i23⟩ := at_of h h23
  obtain ⟨j24, i24⟩ := at_of h h24
  obtain ⟨j25, i25⟩ := at_of h h25
  obtain ⟨j26, i26⟩ := at_of h h26
  obtain ⟨j27, i27⟩ := at_of h h27
  exact ⟨⟨j16, ln, nd, i16⟩, ⟨j17, f17, i17, e17⟩, ⟨j18, f18, i18, e18⟩, ⟨j19, f19, i19, e19⟩, ⟨j20, f20, i20, e20⟩, ⟨j21, f21, i21, e21⟩, ⟨j22, f22, i22, e22⟩, ⟨j23, f23, i23, e23⟩, ⟨j24, f24, i24, e24⟩, ⟨j25, f25, i25, e25⟩, ⟨j26, f26, i26, e26⟩, ⟨j27, f27, i27, e27⟩⟩
theorem RoW_in {q : Nat → Nat} {C : Nat → ClassId} {x : CS} {y : MS} {w : va_W} (I : INV q C x y) (h1 : ∀ c ∈ xPl q C x, c ∈ w) (h2 : ∀ c ∈ xRo q C x, c ∈ w) : RoW q C w y.now := by
  obtain ⟨j28, i28⟩ := at_of h2 (k := 0) rfl
  obtain ⟨j29, i29⟩ := at_of h2 (k := 1) rfl
  obtain ⟨j30, i30⟩ := at_of h2 (k := 2) rfl
  have e : x.sf = SF y.now := I.ro.1
  exact ⟨PlW_in h1 I.pl, ⟨j28, by rw [← e]; exact i28⟩, ⟨j29, x.pla, i29, I.ro.2.1⟩, ⟨j30, x.cv, i30, I.ro.2.2⟩⟩
theorem BsR_in {q : Nat → Nat} {C : Nat → ClassId} {x : CS} {y : MS} {w : va_W} (I : INV q C x y) (h1 : ∀ c ∈ xPl q C x, c ∈ w) (h2 : ∀ c ∈ xRo q C x, c ∈ w) (h3 : ∀ c ∈ xBS q C x, c ∈ w) (h4 : ∀ c ∈ xHi q C x, c ∈ w) (h5 : ∀ c ∈ xTp q C x, c ∈ w) : BsR q C w y.now x.lf x.cn x.len := by
  obtain ⟨j0, i0⟩ := at_of h3 (k := 0) rfl
  obtain ⟨j34, i34⟩ := at_of h4 (k := 0) rfl
  obtain ⟨j1, i1⟩ := at_of h5 (k := 0) rfl
  exact ⟨RoW_in I h1 h2, ⟨j0, i0⟩, ⟨j34, x.nr, i34⟩, ⟨j1, i1⟩⟩
theorem BsR_LW {q : Nat → Nat} {C : Nat → ClassId} {x : CS} {y : MS} {ol : Nat} {fo : Nat → Int64} (I : INV q C x y) : BsR q C (LW q C x y ol fo) y.now x.lf x.cn x.len :=
  BsR_in I (fun c h => by simp only [LW, List.mem_append]; simp only [h, true_or, or_true]) (fun c h => by simp only [LW, List.mem_append]; simp only [h, true_or, or_true]) (fun c h => by simp only [LW, List.mem_append]; simp only [h, true_or, or_true]) (fun c h => by simp only [LW, List.mem_append]; simp only [h, true_or, or_true]) (fun c h => by simp only [LW, List.mem_append]; simp only [h, true_or, or_true])
theorem INV.th0 {q : Nat → Nat} {C : Nat → ClassId} {x : CS} {y : MS} (I : INV q C x y) (z : Int) : INV q C x (z, y.2) := ⟨I.bs, I.len, I.lr, I.byt, I.lf, I.cn, I.cr, I.nr, I.wf, I.pl, I.ro, I.hi⟩
theorem INV.ths {q : Nat → Nat} {C : Nat → ClassId} {x : CS} {y : MS} (I : INV q C x y) (z : Int) (sa : Nat → Int → Int) : INV q C x (z, y.ta, y.fa, y.sm, y.tape, y.now, y.snaps, y.wo, y.sc, sa) := ⟨I.bs, I.len, I.lr, I.byt, I.lf, I.cn, I.cr, I.nr, I.wf, I.pl, I.ro, I.hi⟩
theorem INV.wk {q : Nat → Nat} {C : Nat → ClassId} {x : CS} {y : MS} (I : INV q C x y) (hp nx : Int → Int) : INV q C (x.1, x.2.1, x.2.2.1, x.2.2.2.1, x.2.2.2.2.1, x.2.2.2.2.2.1, x.2.2.2.2.2.2.1, (hp, nx)) y := ⟨I.bs, I.len, I.lr, I.byt, I.lf, I.cn, I.cr, I.nr, I.wf, I.pl, I.ro, I.hi⟩
/-- what a script's int says -/
def sx (xs : Nat → Int32) (z : Int) : Int := (xs z.toNat).toInt
theorem sx_R (xs : Nat → Int32) (z : Int) : R32 (sx xs z) := R32_of _
/-- what stays while the law runs -/
abbrev LE (p : Program) (l : Launch) (s : State) (m : MethodId) (c : Code) (D : va_G) (C : Nat → ClassId) (K V SA : Nat → Nat) (b L : Nat) (xs : Nat → Int32) : Prop := (p.tables.exec = Jvm.exec) ∧ (c.code = code) ∧ (c.maxLocals = 7) ∧ (s.vm.findClass RL = some m.cls) ∧ (∀ w ∈ wsL_ok, w.before #[Value.ref b] s = true) ∧ (va_K D vwCl (ty4 C) s) ∧ (NW s) ∧ (XS K V (fun q => s.heap.size ≤ q) s s.heap) ∧ (EX SA (fun q => s.heap.size ≤ q) s s.heap) ∧ (va_X b L xs s s.heap) ∧ (b < s.heap.size) ∧ (l.stackTraces = false) ∧ (L ≤ 3072)
theorem LE.hx {p : Program} {l : Launch} {s : State} {m : MethodId} {c : Code} {D : va_G} {C : Nat → ClassId} {K V SA : Nat → Nat} {b L : Nat} {xs : Nat → Int32} (E : LE p l s m c D C K V SA b L xs) : p.tables.exec = Jvm.exec := E.1
theorem LE.hb {p : Program} {l : Launch} {s : State} {m : MethodId} {c : Code} {D : va_G} {C : Nat → ClassId} {K V SA : Nat → Nat} {b L : Nat} {xs : Nat → Int32} (E : LE p l s m c D C K V SA b L xs) : c.code = code := E.2.1
theorem LE.hml {p : Program} {l : Launch} {s : State} {m : MethodId} {c : Code} {D : va_G} {C : Nat → ClassId} {K V SA : Nat → Nat} {b L : Nat} {xs : Nat → Int32} (E : LE p l s m c D C K V SA b L xs) : c.maxLocals = 7 := E.2.2.1
theorem LE.hown {p : Program} {l : Launch} {s : State} {m : MethodId} {c : Code} {D : va_G} {C : Nat → ClassId} {K V SA : Nat → Nat} {b L : Nat} {xs : Nat → Int32} (E : LE p l s m c D C K V SA b L xs) : s.vm.findClass RL = some m.cls := E.2.2.2.1
theorem LE.hts {p : Program} {l : Launch} {s : State} {m : MethodId} {c : Code} {D : va_G} {C : Nat → ClassId} {K V SA : Nat → Nat} {b L : Nat} {xs : Nat → Int32} (E : LE p l s m c D C K V SA b L xs) : ∀ w ∈ wsL_ok, w.before #[Value.ref b] s = true := E.2.2.2.2.1
theorem LE.hK {p : Program} {l : Launch} {s : State} {m : MethodId} {c : Code} {D : va_G} {C : Nat → ClassId} {K V SA : Nat → Nat} {b L : Nat} {xs : Nat → Int32} (E : LE p l s m c D C K V SA b L xs) : va_K D vwCl (ty4 C) s := E.2.2.2.2.2.1
theorem LE.hNW {p : Program} {l : Launch} {s : State} {m : MethodId} {c : Code} {D : va_G} {C : Nat → ClassId} {K V SA : Nat → Nat} {b L : Nat} {xs : Nat → Int32} (E : LE p l s m c D C K V SA b L xs) : NW s := E.2.2.2.2.2.2.1
theorem LE.hXS {p : Program} {l : Launch} {s : State} {m : MethodId} {c : Code} {D : va_G} {C : Nat → ClassId} {K V SA : Nat → Nat} {b L : Nat} {xs : Nat → Int32} (E : LE p l s m c D C K V SA b L xs) : XS K V (fun q => s.heap.size ≤ q) s s.heap := E.2.2.2.2.2.2.2.1
theorem LE.hEX {p : Program} {l : Launch} {s : State} {m : MethodId} {c : Code} {D : va_G} {C : Nat → ClassId} {K V SA : Nat → Nat} {b L : Nat} {xs : Nat → Int32} (E : LE p l s m c D C K V SA b L xs) : EX SA (fun q => s.heap.size ≤ q) s s.heap := E.2.2.2.2.2.2.2.2.1
theorem LE.hX {p : Program} {l : Launch} {s : State} {m : MethodId} {c : Code} {D : va_G} {C : Nat → ClassId} {K V SA : Nat → Nat} {b L : Nat} {xs : Nat → Int32} (E : LE p l s m c D C K V SA b L xs) : va_X b L xs s s.heap := E.2.2.2.2.2.2.2.2.2.1
theorem LE.hbl {p : Program} {l : Launch} {s : State} {m : MethodId} {c : Code} {D : va_G} {C : Nat → ClassId} {K V SA : Nat → Nat} {b L : Nat} {xs : Nat → Int32} (E : LE p l s m c D C K V SA b L xs) : b < s.heap.size := E.2.2.2.2.2.2.2.2.2.2.1
theorem LE.hl0 {p : Program} {l : Launch} {s : State} {m : MethodId} {c : Code} {D : va_G} {C : Nat → ClassId} {K V SA : Nat → Nat} {b L : Nat} {xs : Nat → Int32} (E : LE p l s m c D C K V SA b L xs) : l.stackTraces = false := E.2.2.2.2.2.2.2.2.2.2.2.1
theorem LE.hL {p : Program} {l : Launch} {s : State} {m : MethodId} {c : Code} {D : va_G} {C : Nat → ClassId} {K V SA : Nat → Nat} {b L : Nat} {xs : Nat → Int32} (E : LE p l s m c D C K V SA b L xs) : L ≤ 3072 := E.2.2.2.2.2.2.2.2.2.2.2.2
section LJ
variable {p : Program} {l : Launch} {e : Env} {R : Room} {s : State} {m : MethodId} {args : Array Value} {below : List Frame} {meth : Method} {c : Code} {H : Heap} {locs : List Loc} {cells slots : Nat} {Q : State → Prop} {cc : ByteArray} {pc : Nat} {ls : Array Slot} {rest : List Value}
theorem j_sld (hx : p.tables.exec = Jvm.exec) (hb : c.code = cc) {b L : Nat} {xs : Nat → Int32} (hX : va_X b L xs s s.heap) (hbl : b < s.heap.size) (hS : va_S (fun q => s.heap.size ≤ q) s.heap H locs) (hL : L ≤ 3072) {z : Int} (hz : 0 ≤ z ∧ z < L) (d : decode cc pc = .ok (.iaload, 1))
    (kk : W p l e R s m args below meth c H locs cells slots Q (F0 m (pc + 1) ls (.int (iI (sx xs z)) :: rest))) : W p l e R s m args below meth c H locs cells slots Q (F0 m pc ls (.int (iI z) :: .ref b :: rest)) := by
  refine va_sld hx hb hX hbl (Nat.not_le.mpr hbl) hS (iI_in hz.1 (by omega) (by omega)) d ?_
  rw [iI_cl hz.1 (by omega)]
  have e9 : iI (sx xs z) = xs z.toNat := iI_of _
  rw [e9] at kk
  exact kk
end LJ
