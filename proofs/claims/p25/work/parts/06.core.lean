/-! A judgement of its own over the kit's W: all that a walk carries is bundled in one tuple G. -/
abbrev GT : Type := Program × Launch × Env × Room × State × MethodId × Array Value × List Frame × Method × Code × va_G × (ClassId × ClassId × ClassId) × (Nat → Prop) × (Array Value → State → Outcome → State → Prop) × (Nat × Nat) × (State → Prop)
abbrev gp (G : GT) : Program := G.1
abbrev gl (G : GT) : Launch := G.2.1
abbrev ge (G : GT) : Env := G.2.2.1
abbrev gR (G : GT) : Room := G.2.2.2.1
abbrev gs (G : GT) : State := G.2.2.2.2.1
abbrev gm (G : GT) : MethodId := G.2.2.2.2.2.1
abbrev ga (G : GT) : Array Value := G.2.2.2.2.2.2.1
abbrev gb (G : GT) : List Frame := G.2.2.2.2.2.2.2.1
abbrev gt (G : GT) : Method := G.2.2.2.2.2.2.2.2.1
abbrev gc (G : GT) : Code := G.2.2.2.2.2.2.2.2.2.1
abbrev gD (G : GT) : va_G := G.2.2.2.2.2.2.2.2.2.2.1
abbrev gk (G : GT) : ClassId × ClassId × ClassId := G.2.2.2.2.2.2.2.2.2.2.2.1
abbrev gA (G : GT) : Nat → Prop := G.2.2.2.2.2.2.2.2.2.2.2.2.1
abbrev gQ (G : GT) : Array Value → State → Outcome → State → Prop := G.2.2.2.2.2.2.2.2.2.2.2.2.2.1
abbrev gN (G : GT) : Nat × Nat := G.2.2.2.2.2.2.2.2.2.2.2.2.2.2.1
abbrev gZ (G : GT) : State → Prop := G.2.2.2.2.2.2.2.2.2.2.2.2.2.2.2
abbrev TYs (cs : ClassId × ClassId × ClassId) : List (ClassId × FieldType) := [(cs.1, .int), (cs.2.1, .boolean), (cs.2.2, .array .int)]
def Rmd (d : Nat) : Room := { frames := d, cells := 0, slots := 0, locals := 30 * d }
def aI (cs : ClassId × ClassId × ClassId) (n : Nat) (f : Nat → Int32) : va_E := .inl (cs.1, n, .inl f)
def aZ (cs : ClassId × ClassId × ClassId) (n : Nat) (f : Nat → Int32) : va_E := .inl (cs.2.1, n, .inl f)
def aQ (cs : ClassId × ClassId × ClassId) (n : Nat) (f : Nat → Option Nat) : va_E := .inl (cs.2.2, n, .inr (.inr (.inr (.inr f))))
def zV (G : GT) (nL pc : Nat) (ls : List (Nat × Value)) (st : List Value) (ws : va_W) : Prop :=
  ∀ (H : Heap) (locs : List Loc) (la : Array Slot), va_P (gD G) vwCl ws H → va_D (gA G) ws → va_S (gA G) (gs G).heap H locs → lv_has la nL ls →
    W (gp G) (gl G) (ge G) (gR G) (gs G) (gm G) (ga G) (gb G) (gt G) (gc G) H locs (gN G).1 (gN G).2 (gZ G) (F0 (gm G) pc la st)
/-- the class's two rows of constants, which stand ahead of all that is made -/
def zLV (k : Nat) : Int32 := if k = 0 then 0 else 1
def zMV (k : Nat) : Int32 := if k = 2 then 50 else 9
def zSt (A : Nat → Prop) (U : State) (H : Heap) : Prop :=
  (∃ t : Nat, va_Z "FuseBoards$House" "LEAST_VALUES" "[I" (.ref t) A U H ∧ va_T .int t 3 (fun k => .int (zLV k)) A U H) ∧
  (∃ t : Nat, va_Z "FuseBoards$House" "MOST_VALUES" "[I" (.ref t) A U H ∧ va_T .int t 3 (fun k => .int (zMV k)) A U H)
theorem zSt.kept {A : Nat → Prop} {U : State} {H H1 : Heap} (h : zSt A U H) (hq : ∀ a : Nat, a < H.size → ¬ A a → H1[a]? = H[a]?) : zSt A U H1 := by
  obtain ⟨⟨t, h1, h2⟩, u, h3, h4⟩ := h
  exact ⟨⟨t, h1.kept hq, h2.kept hq⟩, u, h3.kept hq, h4.kept hq⟩
theorem zSt.narrow {A B : Nat → Prop} {U : State} {H : Heap} (h : zSt A U H) (hq : ∀ q, B q → A q) : zSt B U H := by
  obtain ⟨⟨t, h1, h2⟩, u, h3, h4⟩ := h
  exact ⟨⟨t, h1.narrow hq, h2.narrow hq⟩, u, h3.narrow hq, h4.narrow hq⟩
theorem zSt.moved {A : Nat → Prop} {u U : State} {H : Heap} (hvm : u.vm.Alike U.vm) (h : zSt A u H) : zSt A U H := by
  obtain ⟨⟨t, h1, h2⟩, v, h3, h4⟩ := h
  exact ⟨⟨t, h1.moved hvm, h2.moved hvm⟩, v, h3.moved hvm, h4.moved hvm⟩
def zC (G : GT) (cc : ByteArray) (nL : Nat) (own : String) (ret : Option FieldType) (d : Nat) : Prop :=
  ((gp G).tables.exec = Jvm.exec ∧ (gc G).code = cc ∧ (gc G).maxLocals = nL ∧ (gs G).vm.findClass own = some (gm G).cls ∧ ∀ w ∈ lw_tg, w.before (ga G) (gs G) = true) ∧
  va_K (gD G) vwCl (TYs (gk G)) (gs G) ∧ (d ≤ (gR G).frames ∧ 30 * d ≤ (gR G).locals ∧ (gN G).1 ≤ (gR G).cells ∧ (gN G).2 ≤ (gR G).slots) ∧ (gt G).locks = false ∧ (gt G).sig.returnType = ret ∧ (∀ q : Nat, (gs G).heap.size ≤ q → gA G q) ∧ zSt (gA G) (gs G) (gs G).heap
/-- the end of a method: what is owed at it -/
def zF (G : GT) (rv : Option Value) (ws : va_W) : Prop :=
  (gN G = (0, 0) ∧ gZ G = MQ (gb G) (gQ G) (ga G) (gs G) 0 0 (gA G)) ∧ ∀ (H : Heap) (locs : List Loc) (t : State), va_P (gD G) vwCl ws H → va_S (gA G) (gs G).heap H locs → t.heap = H → gQ G (ga G) (gs G) (.returned rv) t
section ZROWS
variable {G : GT} {cc : ByteArray} {nL : Nat} {own : String} {ret : Option FieldType} {d pc : Nat} {ls : List (Nat × Value)} {st : List Value} {ws : va_W}
theorem z_iconst {n : Int} {v : Int32} (C : zC G cc nL own ret d) (hd : decode cc pc = .ok (.iconst n, 1)) (hv : Int32.ofInt n = v) (k : zV G nL (pc + 1) ls (.int v :: st) ws) : zV G nL pc ls st ws := fun H locs la hP hD hS hl => lv_iconst C.1.1 C.1.2.1 hd hv (k H locs la hP hD hS hl)
theorem z_bipush {n : Int} {v : Int32} (C : zC G cc nL own ret d) (hd : decode cc pc = .ok (.bipush n, 2)) (hv : (Int8.ofInt n).toInt32 = v) (k : zV G nL (pc + 2) ls (.int v :: st) ws) : zV G nL pc ls st ws := fun H locs la hP hD hS hl => lv_bipush C.1.1 C.1.2.1 hd hv (k H locs la hP hD hS hl)
theorem z_sipush {n : Int} {v : Int32} (C : zC G cc nL own ret d) (hd : decode cc pc = .ok (.sipush n, 3)) (hv : (Int16.ofInt n).toInt32 = v) (k : zV G nL (pc + 3) ls (.int v :: st) ws) : zV G nL pc ls st ws := fun H locs la hP hD hS hl => lv_sipush C.1.1 C.1.2.1 hd hv (k H locs la hP hD hS hl)
theorem z_lconst {n : Fin 2} {v : Int64} (C : zC G cc nL own ret d) (hd : decode cc pc = .ok (.lconst n, 1)) (hv : Int64.ofNat (n : Nat) = v) (k : zV G nL (pc + 1) ls (.long v :: st) ws) : zV G nL pc ls st ws := fun H locs la hP hD hS hl => lv_lconst C.1.1 C.1.2.1 hd hv (k H locs la hP hD hS hl)
theorem z_iload_n {n : Fin 4} {x : Int32} (j : Nat) (C : zC G cc nL own ret d) (hd : decode cc pc = .ok (.iload_n n, 1)) (hj : ls[j]? = some ((n : Nat), .int x)) (k : zV G nL (pc + 1) ls (.int x :: st) ws) : zV G nL pc ls st ws := fun H locs la hP hD hS hl => lv_iload_n C.1.1 C.1.2.1 hd rfl (lv_at hl j hj) (k H locs la hP hD hS hl)
theorem z_iload {n : Nat} {x : Int32} (j : Nat) (C : zC G cc nL own ret d) (hd : decode cc pc = .ok (.iload n, 2)) (hj : ls[j]? = some (n, .int x)) (k : zV G nL (pc + 2) ls (.int x :: st) ws) : zV G nL pc ls st ws := fun H locs la hP hD hS hl => lv_iload C.1.1 C.1.2.1 hd (lv_at hl j hj) (k H locs la hP hD hS hl)
theorem z_lload_n {n : Fin 4} {x : Int64} (j : Nat) (C : zC G cc nL own ret d) (hd : decode cc pc = .ok (.lload_n n, 1)) (hj : ls[j]? = some ((n : Nat), .long x)) (k : zV G nL (pc + 1) ls (.long x :: st) ws) : zV G nL pc ls st ws := fun H locs la hP hD hS hl => lv_lload_n C.1.1 C.1.2.1 hd rfl (lv_at hl j hj) (k H locs la hP hD hS hl)
theorem z_lload {n : Nat} {x : Int64} (j : Nat) (C : zC G cc nL own ret d) (hd : decode cc pc = .ok (.lload n, 2)) (hj : ls[j]? = some (n, .long x)) (k : zV G nL (pc + 2) ls (.long x :: st) ws) : zV G nL pc ls st ws := fun H locs la hP hD hS hl => lv_lload C.1.1 C.1.2.1 hd (lv_at hl j hj) (k H locs la hP hD hS hl)
theorem z_aload_n {n : Fin 4} {a : Nat} (j : Nat) (C : zC G cc nL own ret d) (hd : decode cc pc = .ok (.aload_n n, 1)) (hj : ls[j]? = some ((n : Nat), .ref a)) (k : zV G nL (pc + 1) ls (.ref a :: st) ws) : zV G nL pc ls st ws := fun H locs la hP hD hS hl => lv_aload_n C.1.1 C.1.2.1 hd rfl (lv_at hl j hj) (k H locs la hP hD hS hl)
theorem z_istore_n {n : Fin 4} {x : Int32} {ls' : List (Nat × Value)} (C : zC G cc nL own ret d) (hd : decode cc pc = .ok (.istore_n n, 1)) (hn : (n : Nat) < nL) (hl' : ((n : Nat), Value.int x) :: ls.filter (fun q => !(q.1 == (n : Nat)) && !(q.1 + 1 == (n : Nat) && q.2.category == 2)) = ls') (k : zV G nL (pc + 1) ls' st ws) : zV G nL pc ls (.int x :: st) ws := fun H locs _ hP hD hS hl => lv_istore_n C.1.1 C.1.2.1 hd rfl hl hn hl' (fun la' h' => k H locs la' hP hD hS h')
theorem z_istore {n : Nat} {x : Int32} {ls' : List (Nat × Value)} (C : zC G cc nL own ret d) (hd : decode cc pc = .ok (.istore n, 2)) (hn : n < nL) (hl' : (n, Value.int x) :: ls.filter (fun q => !(q.1 == n) && !(q.1 + 1 == n && q.2.category == 2)) = ls') (k : zV G nL (pc + 2) ls' st ws) : zV G nL pc ls (.int x :: st) ws := fun H locs _ hP hD hS hl => lv_istore C.1.1 C.1.2.1 hd hl hn hl' (fun la' h' => k H locs la' hP hD hS h')
theorem z_lstore_n {n : Fin 4} {x : Int64} {ls' : List (Nat × Value)} (C : zC G cc nL own ret d) (hd : decode cc pc = .ok (.lstore_n n, 1)) (hn : (n : Nat) + 1 < nL) (hl' : ((n : Nat), Value.long x) :: ls.filter (fun q => !(q.1 == (n : Nat)) && (!(q.1 == (n : Nat) + 1) && !(q.1 + 1 == (n : Nat) && q.2.category == 2))) = ls') (k : zV G nL (pc + 1) ls' st ws) : zV G nL pc ls (.long x :: st) ws := fun H locs _ hP hD hS hl => lv_lstore_n C.1.1 C.1.2.1 hd rfl hl hn hl' (fun la' h' => k H locs la' hP hD hS h')
theorem z_iinc {i : Nat} {n : Int} {x n' v : Int32} {ls' : List (Nat × Value)} (j : Nat) (C : zC G cc nL own ret d) (hd : decode cc pc = .ok (.iinc i n, 3)) (hj : ls[j]? = some (i, .int x)) (hn' : Int32.ofInt n = n') (hv : x + n' = v) (hn : i < nL) (hl' : (i, Value.int v) :: ls.filter (fun q => !(q.1 == i) && !(q.1 + 1 == i && q.2.category == 2)) = ls') (k : zV G nL (pc + 3) ls' st ws) : zV G nL pc ls st ws := fun H locs _ hP hD hS hl => lv_iinc C.1.1 C.1.2.1 hd hl hj (by rw [hn']; exact hv) hn hl' (fun la' h' => k H locs la' hP hD hS h')
/-- a name for the top -/
theorem z_top {x x' : Int32} (he : x = x') (k : zV G nL pc ls (.int x' :: st) ws) : zV G nL pc ls (.int x :: st) ws := he ▸ k
theorem z_topl {x x' : Int64} (he : x = x') (k : zV G nL pc ls (.long x' :: st) ws) : zV G nL pc ls (.long x :: st) ws := he ▸ k
theorem z_sub {ls' : List (Nat × Value)} (ks : List Nat) (h : lv_pick ls ks = ls') (k : zV G nL pc ls' st ws) : zV G nL pc ls st ws := fun H locs la hP hD hS hl => k H locs la hP hD hS (lv_sub hl ks h)
theorem z_iadd {x y : Int32} (C : zC G cc nL own ret d) (hd : decode cc pc = .ok (.iadd, 1)) (k : zV G nL (pc + 1) ls (.int (x + y) :: st) ws) : zV G nL pc ls (.int y :: .int x :: st) ws := fun H locs la hP hD hS hl => lv_iadd C.1.1 C.1.2.1 hd (k H locs la hP hD hS hl)
theorem z_isub {x y : Int32} (C : zC G cc nL own ret d) (hd : decode cc pc = .ok (.isub, 1)) (k : zV G nL (pc + 1) ls (.int (x - y) :: st) ws) : zV G nL pc ls (.int y :: .int x :: st) ws := fun H locs la hP hD hS hl => lv_isub C.1.1 C.1.2.1 hd (k H locs la hP hD hS hl)
theorem z_imul {x y : Int32} (C : zC G cc nL own ret d) (hd : decode cc pc = .ok (.imul, 1)) (k : zV G nL (pc + 1) ls (.int (x * y) :: st) ws) : zV G nL pc ls (.int y :: .int x :: st) ws := fun H locs la hP hD hS hl => lv_imul C.1.1 C.1.2.1 hd (k H locs la hP hD hS hl)
theorem z_iand {x y : Int32} (C : zC G cc nL own ret d) (hd : decode cc pc = .ok (.iand, 1)) (k : zV G nL (pc + 1) ls (.int (x &&& y) :: st) ws) : zV G nL pc ls (.int y :: .int x :: st) ws := fun H locs la hP hD hS hl => lv_iand C.1.1 C.1.2.1 hd (k H locs la hP hD hS hl)
theorem z_ior {x y : Int32} (C : zC G cc nL own ret d) (hd : decode cc pc = .ok (.ior, 1)) (k : zV G nL (pc + 1) ls (.int (x ||| y) :: st) ws) : zV G nL pc ls (.int y :: .int x :: st) ws := fun H locs la hP hD hS hl => lv_ior C.1.1 C.1.2.1 hd (k H locs la hP hD hS hl)
theorem z_ixor {x y : Int32} (C : zC G cc nL own ret d) (hd : decode cc pc = .ok (.ixor, 1)) (k : zV G nL (pc + 1) ls (.int (x ^^^ y) :: st) ws) : zV G nL pc ls (.int y :: .int x :: st) ws := fun H locs la hP hD hS hl => lv_ixor C.1.1 C.1.2.1 hd (k H locs la hP hD hS hl)
theorem z_ineg {x : Int32} (C : zC G cc nL own ret d) (hd : decode cc pc = .ok (.ineg, 1)) (k : zV G nL (pc + 1) ls (.int (-x) :: st) ws) : zV G nL pc ls (.int x :: st) ws := fun H locs la hP hD hS hl => lv_ineg C.1.1 C.1.2.1 hd (k H locs la hP hD hS hl)
theorem z_idiv {x y : Int32} (C : zC G cc nL own ret d) (hd : decode cc pc = .ok (.idiv, 1)) (hne : ¬ y = 0) (k : zV G nL (pc + 1) ls (.int (x / y) :: st) ws) : zV G nL pc ls (.int y :: .int x :: st) ws := fun H locs la hP hD hS hl => lv_idiv C.1.1 C.1.2.1 hd hne (k H locs la hP hD hS hl)
theorem z_irem {x y : Int32} (C : zC G cc nL own ret d) (hd : decode cc pc = .ok (.irem, 1)) (hne : ¬ y = 0) (k : zV G nL (pc + 1) ls (.int (x - x / y * y) :: st) ws) : zV G nL pc ls (.int y :: .int x :: st) ws := fun H locs la hP hD hS hl => lv_irem C.1.1 C.1.2.1 hd hne (k H locs la hP hD hS hl)
theorem z_ishl {x y : Int32} (C : zC G cc nL own ret d) (hd : decode cc pc = .ok (.ishl, 1)) (k : zV G nL (pc + 1) ls (.int (x <<< (y &&& 31)) :: st) ws) : zV G nL pc ls (.int y :: .int x :: st) ws := fun H locs la hP hD hS hl => lv_ishl C.1.1 C.1.2.1 hd (k H locs la hP hD hS hl)
theorem z_ishr {x y : Int32} (C : zC G cc nL own ret d) (hd : decode cc pc = .ok (.ishr, 1)) (k : zV G nL (pc + 1) ls (.int (x >>> (y &&& 31)) :: st) ws) : zV G nL pc ls (.int y :: .int x :: st) ws := fun H locs la hP hD hS hl => lv_ishr C.1.1 C.1.2.1 hd (k H locs la hP hD hS hl)
def zushr (x y : Int32) : Int32 := (x.toUInt32 >>> (y.toUInt32 &&& Int32.toUInt32 31)).toInt32
def zlushr (x : Int64) (y : Int32) : Int64 := (x.toUInt64 >>> (y.toInt64.toUInt64 &&& Int64.toUInt64 63)).toInt64
def zlshl (x : Int64) (y : Int32) : Int64 := x <<< (y.toInt64 &&& 63)
theorem z_iushr {x y : Int32} (C : zC G cc nL own ret d) (hd : decode cc pc = .ok (.iushr, 1)) (k : zV G nL (pc + 1) ls (.int (zushr x y) :: st) ws) : zV G nL pc ls (.int y :: .int x :: st) ws := fun H locs la hP hD hS hl => lv_iushr C.1.1 C.1.2.1 hd rfl (k H locs la hP hD hS hl)
theorem z_lushr {x : Int64} {y : Int32} (C : zC G cc nL own ret d) (hd : decode cc pc = .ok (.lushr, 1)) (k : zV G nL (pc + 1) ls (.long (zlushr x y) :: st) ws) : zV G nL pc ls (.int y :: .long x :: st) ws := fun H locs la hP hD hS hl => lv_lushr C.1.1 C.1.2.1 hd rfl (k H locs la hP hD hS hl)
theorem z_lshl {x : Int64} {y : Int32} (C : zC G cc nL own ret d) (hd : decode cc pc = .ok (.lshl, 1)) (k : zV G nL (pc + 1) ls (.long (zlshl x y) :: st) ws) : zV G nL pc ls (.int y :: .long x :: st) ws := fun H locs la hP hD hS hl => lv_lshl C.1.1 C.1.2.1 hd rfl (k H locs la hP hD hS hl)
theorem z_land {x y : Int64} (C : zC G cc nL own ret d) (hd : decode cc pc = .ok (.land, 1)) (k : zV G nL (pc + 1) ls (.long (x &&& y) :: st) ws) : zV G nL pc ls (.long y :: .long x :: st) ws := fun H locs la hP hD hS hl => lv_land C.1.1 C.1.2.1 hd (k H locs la hP hD hS hl)
theorem z_lor {x y : Int64} (C : zC G cc nL own ret d) (hd : decode cc pc = .ok (.lor, 1)) (k : zV G nL (pc + 1) ls (.long (x ||| y) :: st) ws) : zV G nL pc ls (.long y :: .long x :: st) ws := fun H locs la hP hD hS hl => lv_lor C.1.1 C.1.2.1 hd (k H locs la hP hD hS hl)
theorem z_l2i {x : Int64} (C : zC G cc nL own ret d) (hd : decode cc pc = .ok (.l2i, 1)) (k : zV G nL (pc + 1) ls (.int x.toInt32 :: st) ws) : zV G nL pc ls (.long x :: st) ws := fun H locs la hP hD hS hl => lv_l2i C.1.1 C.1.2.1 hd rfl (k H locs la hP hD hS hl)
theorem z_i2l {x : Int32} (C : zC G cc nL own ret d) (hd : decode cc pc = .ok (.i2l, 1)) (k : zV G nL (pc + 1) ls (.long x.toInt64 :: st) ws) : zV G nL pc ls (.int x :: st) ws := fun H locs la hP hD hS hl => lv_i2l C.1.1 C.1.2.1 hd rfl (k H locs la hP hD hS hl)
theorem z_lcmp {x y : Int64} (C : zC G cc nL own ret d) (hd : decode cc pc = .ok (.lcmp, 1)) (k : zV G nL (pc + 1) ls (.int (lg_cmp x y) :: st) ws) : zV G nL pc ls (.long y :: .long x :: st) ws := fun H locs la hP hD hS hl => W.lcmp C.1.1 C.1.2.1 hd (k H locs la hP hD hS hl)
theorem z_dup {v : Value} (C : zC G cc nL own ret d) (hd : decode cc pc = .ok (.dup, 1)) (hv : v.category = 1) (k : zV G nL (pc + 1) ls (v :: v :: st) ws) : zV G nL pc ls (v :: st) ws := fun H locs la hP hD hS hl => lv_dup C.1.1 C.1.2.1 hd hv (k H locs la hP hD hS hl)
theorem z_dup2 {u v : Value} (C : zC G cc nL own ret d) (hd : decode cc pc = .ok (.dup2, 1)) (hu : u.category = 1) (hv : v.category = 1) (k : zV G nL (pc + 1) ls (u :: v :: u :: v :: st) ws) : zV G nL pc ls (u :: v :: st) ws := fun H locs la hP hD hS hl => lv_dup2_11 C.1.1 C.1.2.1 hd hu hv (k H locs la hP hD hS hl)
theorem z_pop {v : Value} (C : zC G cc nL own ret d) (hd : decode cc pc = .ok (.pop, 1)) (hv : v.category = 1) (k : zV G nL (pc + 1) ls st ws) : zV G nL pc ls (v :: st) ws := fun H locs la hP hD hS hl => lv_pop C.1.1 C.1.2.1 hd hv (k H locs la hP hD hS hl)
theorem z_goto {off : Int} {tgt : Nat} (C : zC G cc nL own ret d) (hd : decode cc pc = .ok (.goto off, 3)) (ht : (pc : Int) + off = (tgt : Int)) (k : zV G nL tgt ls st ws) : zV G nL pc ls st ws := fun H locs la hP hD hS hl => lv_goto C.1.1 C.1.2.1 hd ht (k H locs la hP hD hS hl)
theorem z_icmp_eq {x y : Int32} {off : Int} {tgt : Nat} (C : zC G cc nL own ret d) (hd : decode cc pc = .ok (.if_icmp .eq off, 3)) (ht : (pc : Int) + off = (tgt : Int)) (kt : x = y → zV G nL tgt ls st ws) (kf : ¬ x = y → zV G nL (pc + 3) ls st ws) : zV G nL pc ls (.int y :: .int x :: st) ws := fun H locs la hP hD hS hl => lv_icmp_eq C.1.1 C.1.2.1 hd ht (fun h => kt h H locs la hP hD hS hl) (fun h => kf h H locs la hP hD hS hl)
theorem z_icmp_ne {x y : Int32} {off : Int} {tgt : Nat} (C : zC G cc nL own ret d) (hd : decode cc pc = .ok (.if_icmp .ne off, 3)) (ht : (pc : Int) + off = (tgt : Int)) (kt : ¬ x = y → zV G nL tgt ls st ws) (kf : x = y → zV G nL (pc + 3) ls st ws) : zV G nL pc ls (.int y :: .int x :: st) ws := fun H locs la hP hD hS hl => lv_icmp_ne C.1.1 C.1.2.1 hd ht (fun h => kt h H locs la hP hD hS hl) (fun h => kf h H locs la hP hD hS hl)
theorem z_icmp_lt {x y : Int32} {off : Int} {tgt : Nat} (C : zC G cc nL own ret d) (hd : decode cc pc = .ok (.if_icmp .lt off, 3)) (ht : (pc : Int) + off = (tgt : Int)) (kt : x < y → zV G nL tgt ls st ws) (kf : ¬ x < y → zV G nL (pc + 3) ls st ws) : zV G nL pc ls (.int y :: .int x :: st) ws := fun H locs la hP hD hS hl => lv_icmp_lt C.1.1 C.1.2.1 hd ht (fun h => kt h H locs la hP hD hS hl) (fun h => kf h H locs la hP hD hS hl)
theorem z_icmp_ge {x y : Int32} {off : Int} {tgt : Nat} (C : zC G cc nL own ret d) (hd : decode cc pc = .ok (.if_icmp .ge off, 3)) (ht : (pc : Int) + off = (tgt : Int)) (kt : y ≤ x → zV G nL tgt ls st ws) (kf : ¬ y ≤ x → zV G nL (pc + 3) ls st ws) : zV G nL pc ls (.int y :: .int x :: st) ws := fun H locs la hP hD hS hl => lv_icmp_ge C.1.1 C.1.2.1 hd ht (fun h => kt h H locs la hP hD hS hl) (fun h => kf h H locs la hP hD hS hl)
theorem z_icmp_gt {x y : Int32} {off : Int} {tgt : Nat} (C : zC G cc nL own ret d) (hd : decode cc pc = .ok (.if_icmp .gt off, 3)) (ht : (pc : Int) + off = (tgt : Int)) (kt : y < x → zV G nL tgt ls st ws) (kf : ¬ y < x → zV G nL (pc + 3) ls st ws) : zV G nL pc ls (.int y :: .int x :: st) ws := fun H locs la hP hD hS hl => lv_icmp_gt C.1.1 C.1.2.1 hd ht (fun h => kt h H locs la hP hD hS hl) (fun h => kf h H locs la hP hD hS hl)
theorem z_icmp_le {x y : Int32} {off : Int} {tgt : Nat} (C : zC G cc nL own ret d) (hd : decode cc pc = .ok (.if_icmp .le off, 3)) (ht : (pc : Int) + off = (tgt : Int)) (kt : x ≤ y → zV G nL tgt ls st ws) (kf : ¬ x ≤ y → zV G nL (pc + 3) ls st ws) : zV G nL pc ls (.int y :: .int x :: st) ws := fun H locs la hP hD hS hl => lv_icmp_le C.1.1 C.1.2.1 hd ht (fun h => kt h H locs la hP hD hS hl) (fun h => kf h H locs la hP hD hS hl)
theorem z_if_eq {x : Int32} {off : Int} {tgt : Nat} (C : zC G cc nL own ret d) (hd : decode cc pc = .ok (.ifCond .eq off, 3)) (ht : (pc : Int) + off = (tgt : Int)) (kt : x = 0 → zV G nL tgt ls st ws) (kf : ¬ x = 0 → zV G nL (pc + 3) ls st ws) : zV G nL pc ls (.int x :: st) ws := fun H locs la hP hD hS hl => lv_if_eq C.1.1 C.1.2.1 hd ht (fun h => kt h H locs la hP hD hS hl) (fun h => kf h H locs la hP hD hS hl)
theorem z_if_ne {x : Int32} {off : Int} {tgt : Nat} (C : zC G cc nL own ret d) (hd : decode cc pc = .ok (.ifCond .ne off, 3)) (ht : (pc : Int) + off = (tgt : Int)) (kt : ¬ x = 0 → zV G nL tgt ls st ws) (kf : x = 0 → zV G nL (pc + 3) ls st ws) : zV G nL pc ls (.int x :: st) ws := fun H locs la hP hD hS hl => lv_if_ne C.1.1 C.1.2.1 hd ht (fun h => kt h H locs la hP hD hS hl) (fun h => kf h H locs la hP hD hS hl)
theorem z_if_lt {x : Int32} {off : Int} {tgt : Nat} (C : zC G cc nL own ret d) (hd : decode cc pc = .ok (.ifCond .lt off, 3)) (ht : (pc : Int) + off = (tgt : Int)) (kt : x < 0 → zV G nL tgt ls st ws) (kf : ¬ x < 0 → zV G nL (pc + 3) ls st ws) : zV G nL pc ls (.int x :: st) ws := fun H locs la hP hD hS hl => lv_if_lt C.1.1 C.1.2.1 hd ht (fun h => kt h H locs la hP hD hS hl) (fun h => kf h H locs la hP hD hS hl)
theorem z_if_ge {x : Int32} {off : Int} {tgt : Nat} (C : zC G cc nL own ret d) (hd : decode cc pc = .ok (.ifCond .ge off, 3)) (ht : (pc : Int) + off = (tgt : Int)) (kt : 0 ≤ x → zV G nL tgt ls st ws) (kf : ¬ 0 ≤ x → zV G nL (pc + 3) ls st ws) : zV G nL pc ls (.int x :: st) ws := fun H locs la hP hD hS hl => lv_if_ge C.1.1 C.1.2.1 hd ht (fun h => kt h H locs la hP hD hS hl) (fun h => kf h H locs la hP hD hS hl)
theorem z_if_gt {x : Int32} {off : Int} {tgt : Nat} (C : zC G cc nL own ret d) (hd : decode cc pc = .ok (.ifCond .gt off, 3)) (ht : (pc : Int) + off = (tgt : Int)) (kt : 0 < x → zV G nL tgt ls st ws) (kf : ¬ 0 < x → zV G nL (pc + 3) ls st ws) : zV G nL pc ls (.int x :: st) ws := fun H locs la hP hD hS hl => lv_if_gt C.1.1 C.1.2.1 hd ht (fun h => kt h H locs la hP hD hS hl) (fun h => kf h H locs la hP hD hS hl)
theorem z_if_le {x : Int32} {off : Int} {tgt : Nat} (C : zC G cc nL own ret d) (hd : decode cc pc = .ok (.ifCond .le off, 3)) (ht : (pc : Int) + off = (tgt : Int)) (kt : x ≤ 0 → zV G nL tgt ls st ws) (kf : ¬ x ≤ 0 → zV G nL (pc + 3) ls st ws) : zV G nL pc ls (.int x :: st) ws := fun H locs la hP hD hS hl => lv_if_le C.1.1 C.1.2.1 hd ht (fun h => kt h H locs la hP hD hS hl) (fun h => kf h H locs la hP hD hS hl)
theorem z_tabIn {dflt lo hi : Int} {offs : Array Int} {len : Nat} {x x0 : Int32} {off : Int} {tgt : Nat} (C : zC G cc nL own ret d) (hd : decode cc pc = .ok (.tableswitch dflt lo hi offs, len)) (hx : x = x0) (h1 : ¬ x0.toInt < lo) (h2 : ¬ hi < x0.toInt) (ho : offs[(x0.toInt - lo).toNat]? = some off) (ht : (pc : Int) + off = (tgt : Int)) (k : zV G nL tgt ls st ws) : zV G nL pc ls (.int x :: st) ws := by
  subst hx
  exact fun H locs la hP hD hS hl => lv_tableIn C.1.1 C.1.2.1 hd h1 h2 ho ht (k H locs la hP hD hS hl)
theorem z_tabOut {dflt lo hi : Int} {offs : Array Int} {len : Nat} {x : Int32} {tgt : Nat} (C : zC G cc nL own ret d) (hd : decode cc pc = .ok (.tableswitch dflt lo hi offs, len)) (h : x.toInt < lo ∨ hi < x.toInt) (ht : (pc : Int) + dflt = (tgt : Int)) (k : zV G nL tgt ls st ws) : zV G nL pc ls (.int x :: st) ws := fun H locs la hP hD hS hl => lv_tableOut C.1.1 C.1.2.1 hd h ht (k H locs la hP hD hS hl)
theorem z_look {dflt : Int} {ps : Array (Int × Int)} {len : Nat} {x : Int32} {off : Int} {tgt : Nat} (C : zC G cc nL own ret d) (hd : decode cc pc = .ok (.lookupswitch dflt ps, len)) (hp : (ps.toList.zip (ps.toList.drop 1)).all (fun (a, next) => a.1 < next.1) = true) (ho : Op.lookupswitch.offset ps.toList dflt x.toInt = off) (ht : (pc : Int) + off = (tgt : Int)) (k : zV G nL tgt ls st ws) : zV G nL pc ls (.int x :: st) ws := fun H locs la hP hD hS hl => lv_lookup C.1.1 C.1.2.1 hd hp ho ht (k H locs la hP hD hS hl)
theorem z_ldc {index : Nat} {v : Int32} (C : zC G cc nL own ret d) (hd : decode cc pc = .ok (.ldc index, 2)) (hw : Cond.constant own index v ∈ lw_tg) (k : zV G nL (pc + 2) ls (.int v :: st) ws) : zV G nL pc ls st ws := fun H locs la hP hD hS hl => lv_ldc C.1.1 C.1.2.1 C.1.2.2.2.1 (C.1.2.2.2.2 _ hw) hd (k H locs la hP hD hS hl)
theorem z_ldcw {index : Nat} {v : Int32} (C : zC G cc nL own ret d) (hd : decode cc pc = .ok (.ldc_w index, 3)) (hw : Cond.constant own index v ∈ lw_tg) (k : zV G nL (pc + 3) ls (.int v :: st) ws) : zV G nL pc ls st ws := fun H locs la hP hD hS hl => lv_ldcw C.1.1 C.1.2.1 C.1.2.2.2.1 (C.1.2.2.2.2 _ hw) hd (k H locs la hP hD hS hl)
theorem z_ldc2 {index : Nat} {v : Int64} (C : zC G cc nL own ret d) (hd : decode cc pc = .ok (.ldc2_w index, 3)) (hw : Cond.constantLong own index v ∈ lw_tg) (k : zV G nL (pc + 3) ls (.long v :: st) ws) : zV G nL pc ls st ws := fun H locs la hP hD hS hl => lv_ldc2 C.1.1 C.1.2.1 C.1.2.2.2.1 (C.1.2.2.2.2 _ hw) hd (k H locs la hP hD hS hl)
/-- an index in its row, and its place -/
def zin (i : Int32) (n k : Nat) : Prop := vp_in i n ∧ i.toNatClampNeg = k
theorem z_iald (q0 : Nat) {n : Nat} {f : Nat → Int32} {a k : Nat} {i : Int32} (C : zC G cc nL own ret d) (hd : decode cc pc = .ok (.iaload, 1)) (hi : zin i n k) (ha : ws[q0]? = some (a, aI (gk G) n f)) (kk : zV G nL (pc + 1) ls (.int (f k) :: st) ws) : zV G nL pc ls (.int i :: .ref a :: st) ws := by
  obtain ⟨h1, rfl⟩ := hi
  exact fun H locs la hP hD hS hl => va_iald C.1.1 C.1.2.1 C.2.1 hP q0 0 ha rfl h1 hd (kk H locs la hP hD hS hl)
theorem z_zald (q0 : Nat) {n : Nat} {f : Nat → Int32} {a k : Nat} {i : Int32} (C : zC G cc nL own ret d) (hd : decode cc pc = .ok (.baload, 1)) (hi : zin i n k) (ha : ws[q0]? = some (a, aZ (gk G) n f)) (kk : zV G nL (pc + 1) ls (.int (f k) :: st) ws) : zV G nL pc ls (.int i :: .ref a :: st) ws := by
  obtain ⟨h1, rfl⟩ := hi
  exact fun H locs la hP hD hS hl => va_zald C.1.1 C.1.2.1 C.2.1 hP q0 1 ha rfl h1 hd (kk H locs la hP hD hS hl)
theorem z_aald (q0 : Nat) {n : Nat} {f : Nat → Option Nat} {a k : Nat} {i : Int32} (C : zC G cc nL own ret d) (hd : decode cc pc = .ok (.aaload, 1)) (hi : zin i n k) (ha : ws[q0]? = some (a, aQ (gk G) n f)) (kk : zV G nL (pc + 1) ls (va_rf (f k) :: st) ws) : zV G nL pc ls (.int i :: .ref a :: st) ws := by
  obtain ⟨h1, rfl⟩ := hi
  intro H locs la hP hD hS hl
  have hlt : i.toNatClampNeg < n := Nat.not_le.mp fun q => h1 (Or.inr q)
  exact W.aald (v := va_rf (f i.toNatClampNeg)) (ty := .array .int) C.1.1 C.1.2.1 (hP q0 _ ha) ((C.2.1.2 2 _ rfl).1 n (fun j => va_rf (f j))) rfl (fun q => by cases q) (by show ¬ (i < 0 ∨ (arrV _ _ _).slots.size ≤ _); rw [arrV_size]; exact h1) (by show (arrV _ _ _).slots[_]? = _; rw [arrV_read _ _ hlt]) rfl rfl hd (kk H locs la hP hD hS hl)
theorem z_iast (q0 : Nat) {n : Nat} {f f' : Nat → Int32} {a k : Nat} {i x : Int32} {ws' : va_W} (C : zC G cc nL own ret d) (hd : decode cc pc = .ok (.iastore, 1)) (hi : zin i n k) (ha : ws[q0]? = some (a, aI (gk G) n f)) (he : upd f k x = f') (hw : ws.set q0 (a, aI (gk G) n f') = ws') (kk : zV G nL (pc + 1) ls st ws') : zV G nL pc ls (.int x :: .int i :: .ref a :: st) ws := by
  obtain ⟨h1, rfl⟩ := hi
  subst he
  subst hw
  exact fun H locs la hP hD hS hl => va_iast C.1.1 C.1.2.1 C.2.1 hP hD hS q0 0 ha rfl h1 hd (fun H1 locs1 hP1 hD1 hS1 => kk H1 locs1 la hP1 hD1 hS1 hl)
theorem z_zast (q0 : Nat) {n : Nat} {f f' : Nat → Int32} {a k : Nat} {i x : Int32} {ws' : va_W} (C : zC G cc nL own ret d) (hd : decode cc pc = .ok (.bastore, 1)) (hi : zin i n k) (ha : ws[q0]? = some (a, aZ (gk G) n f)) (he : upd f k (vp_nar .boolean x) = f') (hw : ws.set q0 (a, aZ (gk G) n f') = ws') (kk : zV G nL (pc + 1) ls st ws') : zV G nL pc ls (.int x :: .int i :: .ref a :: st) ws := by
  obtain ⟨h1, rfl⟩ := hi
  subst he
  subst hw
  exact fun H locs la hP hD hS hl => va_zast C.1.1 C.1.2.1 C.2.1 hP hD hS q0 1 ha rfl h1 hd (fun H1 locs1 hP1 hD1 hS1 => kk H1 locs1 la hP1 hD1 hS1 hl)
theorem z_alen (q0 : Nat) {n : Nat} {f : Nat → Int32} {a : Nat} {v : Int32} (C : zC G cc nL own ret d) (hd : decode cc pc = .ok (.arraylength, 1)) (ha : ws[q0]? = some (a, aI (gk G) n f)) (hv : Int32.ofNat n = v) (kk : zV G nL (pc + 1) ls (.int v :: st) ws) : zV G nL pc ls (.ref a :: st) ws := fun H locs la hP hD hS hl => va_alen C.1.1 C.1.2.1 C.2.1 hP q0 0 ha rfl hv hd (kk H locs la hP hD hS hl)
theorem z_get {index ci N a : Nat} {Cn : String} {T : u_T} {fs : List Value} {v : Value} (q0 k : Nat) (C : zC G cc nL own ret d) (hd : decode cc pc = .ok (.getfield index, 3)) (hc : vwCl[ci]? = some (Cn, T, N)) (hin : ∀ w ∈ u_ws Cn T N, w ∈ lw_tg) (hk : k < N) (hlink : Cond.fieldLink own index (T k).1 (T k).2.1 (T k).2.2.1 ∈ lw_tg) (he : ws[q0]? = some (a, .inr (ci, fs))) (hv : fs[k]? = some v) (kk : zV G nL (pc + 3) ls (v :: st) ws) : zV G nL pc ls (.ref a :: st) ws :=
  fun H locs la hP hD hS hl => va_get C.1.1 C.1.2.1 C.1.2.2.2.2 hin C.1.2.2.2.1 C.2.1 hP q0 he hc k hk (C.1.2.2.2.2 _ hlink) (fun _ h => h) hv hd (kk H locs la hP hD hS hl)
theorem z_put {index ci N a : Nat} {Cn : String} {T : u_T} {fs : List Value} {x : Int32} {ws' : va_W} (q0 k : Nat) (C : zC G cc nL own ret d) (hd : decode cc pc = .ok (.putfield index, 3)) (hc : vwCl[ci]? = some (Cn, T, N)) (hin : ∀ w ∈ u_ws Cn T N, w ∈ lw_tg) (ty0 : Nat → FieldType) (hty : ∀ k, k < N → parseFieldDescriptor (T k).2.2.1 = some (ty0 k)) (hnm : ∀ a, a < N → ∀ b, b < N → a ≠ b → (T a).2.1 ≠ (T b).2.1) (hk : k < N) (hlink : Cond.fieldLink own index (T k).1 (T k).2.1 (T k).2.2.1 ∈ lw_tg) (hfin : (T k).2.2.2 = false) (hti : ty0 k = .int) (he : ws[q0]? = some (a, .inr (ci, fs))) (hlen : k < fs.length) (hw : ws.set q0 (a, .inr (ci, fs.set k (.int x))) = ws') (kk : zV G nL (pc + 3) ls st ws') : zV G nL pc ls (.int x :: .ref a :: st) ws := by
  subst hw
  exact fun H locs la hP hD hS hl => va_put C.1.1 C.1.2.1 C.1.2.2.2.2 hin ty0 hty hnm C.1.2.2.2.1 C.2.1 hP hD hS q0 he hc k hk (C.1.2.2.2.2 _ hlink) (fun _ h => h) hfin (hty k hk) (by rw [hti]; rfl) (by rw [hti]; rfl) hlen hd (fun H1 locs1 hP1 hD1 hS1 => kk H1 locs1 la hP1 hD1 hS1 hl)
theorem z_gets {index t : Nat} {Cn n de : String} (C : zC G cc nL own ret d) (hZ : va_Z Cn n de (.ref t) (gA G) (gs G) (gs G).heap) (hd : decode cc pc = .ok (.getstatic index, 3)) (hw : Cond.fieldLink own index Cn n de ∈ lw_tg) (kk : zV G nL (pc + 3) ls (.ref t :: st) ws) : zV G nL pc ls st ws := fun H locs la hP hD hS hl => va_gets C.1.1 C.1.2.1 hZ hS C.1.2.2.2.1 (C.1.2.2.2.2 _ hw) (fun _ h => h) hd (kk H locs la hP hD hS hl)
theorem z_tld {t k : Nat} {f : Nat → Int32} {i : Int32} (C : zC G cc nL own ret d) (hT : va_T .int t 3 (fun k => .int (f k)) (gA G) (gs G) (gs G).heap) (hd : decode cc pc = .ok (.iaload, 1)) (hi : zin i 3 k) (kk : zV G nL (pc + 1) ls (.int (f k) :: st) ws) : zV G nL pc ls (.int i :: .ref t :: st) ws := by
  obtain ⟨h1, rfl⟩ := hi
  exact fun H locs la hP hD hS hl => va_ti C.1.1 C.1.2.1 hT hS h1 rfl hd (kk H locs la hP hD hS hl)
theorem z_st {st' : List Value} (he : st = st') (k : zV G nL pc ls st' ws) : zV G nL pc ls st ws := he ▸ k
/-- the ends -/
theorem zZ {rv : Option Value} (F : zF G rv ws) {H : Heap} {locs : List Loc} {g : JFrame} (h : W (gp G) (gl G) (ge G) (gR G) (gs G) (gm G) (ga G) (gb G) (gt G) (gc G) H locs 0 0 (MQ (gb G) (gQ G) (ga G) (gs G) 0 0 (gA G)) g) : W (gp G) (gl G) (ge G) (gR G) (gs G) (gm G) (ga G) (gb G) (gt G) (gc G) H locs (gN G).1 (gN G).2 (gZ G) g := by
  rw [F.1.1, F.1.2]
  exact h
theorem z_iret {v : Int32} (C : zC G cc nL own (some .int) d) (hd : decode cc pc = .ok (.ireturn, 1)) (F : zF G (some (.int v)) ws) : zV G nL pc ls [.int v] ws := fun H locs la hP hD hS hl => zZ F (W.iret C.1.1 C.1.2.1 C.2.2.2.2.1 (fun t ht _ => F.2 H locs t hP hS ht) hS.2.2 hd C.2.2.2.1)
theorem z_zret {v : Int32} (C : zC G cc nL own (some .boolean) d) (hd : decode cc pc = .ok (.ireturn, 1)) (hn : narrow .boolean (.int v) = .int v) (F : zF G (some (.int v)) ws) : zV G nL pc ls [.int v] ws := fun H locs la hP hD hS hl => zZ F (W.zret C.1.1 C.1.2.1 C.2.2.2.2.1 hn (fun t ht _ => F.2 H locs t hP hS ht) hS.2.2 hd C.2.2.2.1)
theorem z_lret {v : Int64} (C : zC G cc nL own (some .long) d) (hd : decode cc pc = .ok (.lreturn, 1)) (F : zF G (some (.long v)) ws) : zV G nL pc ls [.long v] ws := fun H locs la hP hD hS hl => zZ F (W.lret C.1.1 C.1.2.1 C.2.2.2.2.1 (fun t ht _ => F.2 H locs t hP hS ht) hS.2.2 hd C.2.2.2.1)
theorem z_vret (C : zC G cc nL own none d) (hd : decode cc pc = .ok (.return_, 1)) (F : zF G none ws) : zV G nL pc ls [] ws := fun H locs la hP hD hS hl => zZ F (W.vret C.1.1 C.1.2.1 C.2.2.2.2.1 (fun t ht _ => F.2 H locs t hP hS ht) hS.2.2 hd C.2.2.2.1)
theorem z_ladd {x y : Int64} (C : zC G cc nL own ret d) (hd : decode cc pc = .ok (.ladd, 1)) (k : zV G nL (pc + 1) ls (.long (x + y) :: st) ws) : zV G nL pc ls (.long y :: .long x :: st) ws := fun H locs la hP hD hS hl => lv_ladd C.1.1 C.1.2.1 hd (k H locs la hP hD hS hl)
theorem z_lmul {x y : Int64} (C : zC G cc nL own ret d) (hd : decode cc pc = .ok (.lmul, 1)) (k : zV G nL (pc + 1) ls (.long (x * y) :: st) ws) : zV G nL pc ls (.long y :: .long x :: st) ws := fun H locs la hP hD hS hl => lv_lmul C.1.1 C.1.2.1 hd (k H locs la hP hD hS hl)
theorem z_lstore {n : Nat} {x : Int64} {ls' : List (Nat × Value)} (C : zC G cc nL own ret d) (hd : decode cc pc = .ok (.lstore n, 2)) (hn : n + 1 < nL) (hl' : (n, Value.long x) :: ls.filter (fun q => !(q.1 == n) && (!(q.1 == n + 1) && !(q.1 + 1 == n && q.2.category == 2))) = ls') (k : zV G nL (pc + 2) ls' st ws) : zV G nL pc ls (.long x :: st) ws := fun H locs _ hP hD hS hl => lv_lstore C.1.1 C.1.2.1 hd hl hn hl' (fun la' h' => k H locs la' hP hD hS h')
end ZROWS
/-- the loops' fuel: 300, in a form that no check unfolds -/
noncomputable def FU : Nat := Classical.choose (⟨300, rfl⟩ : ∃ n : Nat, n = 300)
theorem FU_eq : FU = 300 := Classical.choose_spec (⟨300, rfl⟩ : ∃ n : Nat, n = 300)
theorem FU_lt {j : Nat} (h : j < 300) : j < FU := by rw [FU_eq]; exact h
/-- the pure side's words: a guarded place, names, answers of callees -/
def gd {γ : Type} (i : Int32) (n : Nat) (K : Nat → Option γ) : Option γ := if i < 0 ∨ n ≤ i.toNatClampNeg then none else K i.toNatClampNeg
def nmI {α γ : Type} (x : α) (K : α → Option γ) : Option γ := K x
def b1 {α γ : Type} (o : Option α) (K : α → Option γ) : Option γ := match o with
  | none => none
  | some a => K a
def b2 {α β γ : Type} (o : Option (α × β)) (K : α → β → Option γ) : Option γ := match o with
  | none => none
  | some (a, b) => K a b
def b3 {α β δ γ : Type} (o : Option (α × β × δ)) (K : α → β → δ → Option γ) : Option γ := match o with
  | none => none
  | some (a, b, c) => K a b c
def b4 {α β δ ε γ : Type} (o : Option (α × β × δ × ε)) (K : α → β → δ → ε → Option γ) : Option γ := match o with
  | none => none
  | some (a, b, c, d) => K a b c d
def b5 {α β δ ε ζ γ : Type} (o : Option (α × β × δ × ε × ζ)) (K : α → β → δ → ε → ζ → Option γ) : Option γ := match o with
  | none => none
  | some (a, b, c, d, e) => K a b c d e
def b6 {α β δ ε ζ η γ : Type} (o : Option (α × β × δ × ε × ζ × η)) (K : α → β → δ → ε → ζ → η → Option γ) : Option γ := match o with
  | none => none
  | some (a, b, c, d, e, f) => K a b c d e f
def b7 {α β δ ε ζ η θ γ : Type} (o : Option (α × β × δ × ε × ζ × η × θ)) (K : α → β → δ → ε → ζ → η → θ → Option γ) : Option γ := match o with
  | none => none
  | some (a, b, c, d, e, f, g) => K a b c d e f g
def b8 {α β δ ε ζ η θ ι γ : Type} (o : Option (α × β × δ × ε × ζ × η × θ × ι)) (K : α → β → δ → ε → ζ → η → θ → ι → Option γ) : Option γ := match o with
  | none => none
  | some (a, b, c, d, e, f, g, h) => K a b c d e f g h
def b9 {α β δ ε ζ η θ ι κ γ : Type} (o : Option (α × β × δ × ε × ζ × η × θ × ι × κ)) (K : α → β → δ → ε → ζ → η → θ → ι → κ → Option γ) : Option γ := match o with
  | none => none
  | some (a, b, c, d, e, f, g, h, i) => K a b c d e f g h i
theorem gd_e {γ : Type} {i : Int32} {n : Nat} {K : Nat → Option γ} {r : γ} (h : gd i n K = some r) : ∃ k, zin i n k ∧ K k = some r := by
  unfold gd at h
  split at h
  · cases h
  · exact ⟨_, ⟨by assumption, rfl⟩, h⟩
theorem nm_g {α γ : Type} {x : α} {K : α → Option γ} {r : γ} (h : nmI x K = some r) : ∃ y, x = y ∧ K y = some r := ⟨x, rfl, h⟩
theorem b1_e {α γ : Type} {o : Option α} {K : α → Option γ} {r : γ} (h : b1 o K = some r) : ∃ a, o = some a ∧ K a = some r := by
  cases o with
  | none => cases h
  | some a => exact ⟨a, rfl, h⟩
theorem b2_e {α β γ : Type} {o : Option (α × β)} {K : α → β → Option γ} {r : γ} (h : b2 o K = some r) : ∃ a b, o = some (a, b) ∧ K a b = some r := by
  cases o with
  | none => cases h
  | some a => exact ⟨_, _, rfl, h⟩
theorem b3_e {α β δ γ : Type} {o : Option (α × β × δ)} {K : α → β → δ → Option γ} {r : γ} (h : b3 o K = some r) : ∃ a b c, o = some (a, b, c) ∧ K a b c = some r := by
  cases o with
  | none => cases h
  | some a => exact ⟨_, _, _, rfl, h⟩
theorem b4_e {α β δ ε γ : Type} {o : Option (α × β × δ × ε)} {K : α → β → δ → ε → Option γ} {r : γ} (h : b4 o K = some r) : ∃ a b c d, o = some (a, b, c, d) ∧ K a b c d = some r := by
  cases o with
  | none => cases h
  | some a => exact ⟨_, _, _, _, rfl, h⟩
theorem b5_e {α β δ ε ζ γ : Type} {o : Option (α × β × δ × ε × ζ)} {K : α → β → δ → ε → ζ → Option γ} {r : γ} (h : b5 o K = some r) : ∃ a b c d e, o = some (a, b, c, d, e) ∧ K a b c d e = some r := by
  cases o with
  | none => cases h
  | some a => exact ⟨_, _, _, _, _, rfl, h⟩
theorem b6_e {α β δ ε ζ η γ : Type} {o : Option (α × β × δ × ε × ζ × η)} {K : α → β → δ → ε → ζ → η → Option γ} {r : γ} (h : b6 o K = some r) : ∃ a b c d e f, o = some (a, b, c, d, e, f) ∧ K a b c d e f = some r := by
  cases o with
  | none => cases h
  | some a => exact ⟨_, _, _, _, _, _, rfl, h⟩
theorem b7_e {α β δ ε ζ η θ γ : Type} {o : Option (α × β × δ × ε × ζ × η × θ)} {K : α → β → δ → ε → ζ → η → θ → Option γ} {r : γ} (h : b7 o K = some r) : ∃ a b c d e f g, o = some (a, b, c, d, e, f, g) ∧ K a b c d e f g = some r := by
  cases o with
  | none => cases h
  | some a => exact ⟨_, _, _, _, _, _, _, rfl, h⟩
theorem b8_e {α β δ ε ζ η θ ι γ : Type} {o : Option (α × β × δ × ε × ζ × η × θ × ι)} {K : α → β → δ → ε → ζ → η → θ → ι → Option γ} {r : γ} (h : b8 o K = some r) : ∃ a b c d e f g h, o = some (a, b, c, d, e, f, g, h) ∧ K a b c d e f g h = some r := by
  cases o with
  | none => cases h
  | some a => exact ⟨_, _, _, _, _, _, _, _, rfl, h⟩
theorem b9_e {α β δ ε ζ η θ ι κ γ : Type} {o : Option (α × β × δ × ε × ζ × η × θ × ι × κ)} {K : α → β → δ → ε → ζ → η → θ → ι → κ → Option γ} {r : γ} (h : b9 o K = some r) : ∃ a b c d e f g h i, o = some (a, b, c, d, e, f, g, h, i) ∧ K a b c d e f g h i = some r := by
  cases o with
  | none => cases h
  | some a => exact ⟨_, _, _, _, _, _, _, _, _, rfl, h⟩
def zbo {γ : Type} (v : Int32) (K : Option γ) : Option γ := if v = 0 ∨ v = 1 then K else none
theorem zbo_e {γ : Type} {v : Int32} {K : Option γ} {r : γ} (h : zbo v K = some r) : narrow .boolean (.int v) = .int v ∧ K = some r := by
  unfold zbo at h
  split at h
  · rename_i hv
    rcases hv with rfl | rfl <;> exact ⟨rfl, h⟩
  · cases h
def zdv {γ : Type} (v : Int32) (K : Option γ) : Option γ := if v = 0 then none else K
theorem zdv_e {γ : Type} {v : Int32} {K : Option γ} {r : γ} (h : zdv v K = some r) : ¬ v = 0 ∧ K = some r := by
  unfold zdv at h
  split at h
  · cases h
  · exact ⟨by assumption, h⟩
theorem zin_lt {i : Int32} {n k : Nat} (h : zin i n k) : k < n := by
  obtain ⟨h1, rfl⟩ := h
  exact Nat.not_le.mp fun q => h1 (Or.inr q)
theorem zlt7 {k : Nat} (h : k < 7) : k = 0 ∨ k = 1 ∨ k = 2 ∨ k = 3 ∨ k = 4 ∨ k = 5 ∨ k = 6 := by omega
theorem zlt2 {k : Nat} (h : k < 2) : k = 0 ∨ k = 1 := by omega
theorem ti_ne {x k : Int32} {z : Int} (hk : k.toInt = z) (h : ¬ x = k) : ¬ x.toInt = z := fun q => h (Int32.toInt_inj.mp (q.trans hk.symm))
theorem zne {x z : Int} (h : ¬ x = z) : ¬ z = x := fun q => h q.symm
theorem ifp {γ : Type} {c : Prop} [Decidable c] {a b : Option γ} {r : γ} (hc : c) (h : (if c then a else b) = some r) : a = some r := by
  rw [if_pos hc] at h
  exact h
theorem ifn {γ : Type} {c : Prop} [Decidable c] {a b : Option γ} {r : γ} (hc : ¬ c) (h : (if c then a else b) = some r) : b = some r := by
  rw [if_neg hc] at h
  exact h
/-- the places 'is' of a list, set to the cells of another -/
def zput (ws : va_W) : List Nat → va_W → va_W
  | i :: is, c :: cs => zput (ws.set i c) is cs
  | _, _ => ws
theorem zput_get : ∀ (is : List Nat) (cs ws : va_W), (∀ i ∈ is, i < ws.length) → is.length = cs.length → ∀ (k : Nat) (q : Nat × va_E), (zput ws is cs)[k]? = some q → (∃ j : Nat, is[j]? = some k ∧ cs[j]? = some q) ∨ (k ∉ is ∧ ws[k]? = some q)
  | [], cs, ws, _, _, k, q, h => Or.inr ⟨List.not_mem_nil, by simpa [zput] using h⟩
  | _ :: _, [], _, _, hl, _, _, _ => by cases hl
  | i :: is, c :: cs, ws, hi, hl, k, q, h => by
    have h0 : i < ws.length := hi i List.mem_cons_self
    rcases zput_get is cs (ws.set i c) (fun j hj => by rw [List.length_set]; exact hi j (List.mem_cons_of_mem _ hj)) (Nat.succ.inj hl) k q h with ⟨j, h1, h2⟩ | ⟨h1, h2⟩
    · exact Or.inl ⟨j + 1, by simpa using h1, by simpa using h2⟩
    · by_cases hk : k = i
      · subst hk
        rw [List.getElem?_set_self h0] at h2
        exact Or.inl ⟨0, rfl, h2⟩
      · rw [List.getElem?_set_ne (Ne.symm hk)] at h2
        exact Or.inr ⟨fun hm => (List.mem_cons.mp hm).elim hk h1, h2⟩
theorem zfm : ∀ {is : List Nat} {ws w : va_W}, is.map (fun i => ws[i]?) = w.map some → is.filterMap (fun i => ws[i]?) = w := by
  intro is ws w h
  have h1 : is.filterMap (fun i => ws[i]?) = (is.map (fun i => ws[i]?)).filterMap id := by rw [List.filterMap_map]; rfl
  rw [h1, h, List.filterMap_map]
  simp
theorem zat {is : List Nat} {ws w : va_W} (hs : is.map (fun i => ws[i]?) = w.map some) (j : Nat) : (is[j]?).bind (fun i => ws[i]?) = w[j]? := by
  have h1 : (is.map (fun i => ws[i]?))[j]? = (w.map some)[j]? := by rw [hs]
  rw [List.getElem?_map, List.getElem?_map] at h1
  cases hi : is[j]? with
  | none => rw [hi] at h1; cases hw : w[j]? with
    | none => rfl
    | some q => rw [hw] at h1; cases h1
  | some i => rw [hi] at h1; cases hw : w[j]? with
    | none => rw [hw] at h1; cases h1
    | some q => rw [hw] at h1; exact Option.some.inj h1
theorem zput_P {D : va_G} {cl : List vw_C} {A0 : Nat → Prop} {ws wc w1 : va_W} {H H1 : Heap} {is : List Nat} (hP : va_P D cl ws H) (hD : va_D A0 ws) (hC : is.map (fun i => ws[i]?) = wc.map some) (hf : w1.map Prod.fst = wc.map Prod.fst)
    (hk : ∀ q : Nat, q < H.size → ¬ va_A wc H.size q → H1[q]? = H[q]?) (hP1 : va_P D cl w1 H1) : va_P D cl (zput ws is w1) H1 ∧ va_D A0 (zput ws is w1) := by
  have hlen : is.length = wc.length := by have := congrArg List.length hC; simpa using this
  have hlen1 : w1.length = wc.length := by have := congrArg List.length hf; simpa using this
  have hlt : ∀ i ∈ is, i < ws.length := by
    intro i hi
    obtain ⟨j, hj⟩ := List.getElem?_of_mem hi
    have h1 := zat hC j
    rw [hj] at h1
    have hjl : j < wc.length := by rw [← hlen]; exact (List.getElem?_eq_some_iff.mp hj).1
    rw [List.getElem?_eq_getElem hjl] at h1
    exact (List.getElem?_eq_some_iff.mp (show ws[i]? = some _ from h1)).1
  have hadr : ∀ (k : Nat) (q : Nat × va_E), (zput ws is w1)[k]? = some q → (∃ q0, ws[k]? = some q0 ∧ q0.1 = q.1) ∧ va_at D cl q H1 := by
    intro k q hq
    rcases zput_get is w1 ws hlt (hlen.trans hlen1.symm) k q hq with ⟨j, h1, h2⟩ | ⟨h1, h2⟩
    · refine ⟨?_, hP1 j q h2⟩
      have h3 := zat hC j
      rw [h1] at h3
      have h4 : (w1.map Prod.fst)[j]? = (wc.map Prod.fst)[j]? := by rw [hf]
      rw [List.getElem?_map, List.getElem?_map, h2, ← h3] at h4
      cases hw : ws[k]? with
      | none => rw [show ((some k).bind fun i => ws[i]?) = ws[k]? from rfl, hw] at h4; cases h4
      | some q0 => rw [show ((some k).bind fun i => ws[i]?) = ws[k]? from rfl, hw] at h4; exact ⟨q0, rfl, (Option.some.inj h4).symm⟩
    · refine ⟨⟨q, h2, rfl⟩, (hP k q h2).kept (hk q.1 (hP k q h2).lt ?_)⟩
      rintro (⟨j, e, h3⟩ | h3)
      · have h4 := zat hC j
        rw [h3] at h4
        cases hi : is[j]? with
        | none => rw [hi] at h4; cases h4
        | some i =>
          rw [hi] at h4
          have h5 : ws[i]? = some (q.1, e) := h4
          have := hD.1 k i q (q.1, e) h2 h5 rfl
          subst this
          exact h1 (List.mem_of_getElem? hi)
      · exact absurd (hP k q h2).lt (Nat.not_lt.mpr h3)
  refine ⟨fun k q hq => (hadr k q hq).2, fun i j x y hi hj hxy => ?_, fun k q hq => ?_⟩
  · obtain ⟨⟨x0, h1, h2⟩, -⟩ := hadr i x hi
    obtain ⟨⟨y0, h3, h4⟩, -⟩ := hadr j y hj
    exact hD.1 i j x0 y0 h1 h3 (h2.trans (hxy.trans h4.symm))
  · obtain ⟨⟨q0, h1, h2⟩, -⟩ := hadr k q hq
    rw [← h2]
    exact hD.2 k q0 h1
/-- a contract: from the world ws to the world ws2, with an answer -/
def zB (D : va_G) (cs : ClassId × ClassId × ClassId) (ws : va_W) (sz : Nat) (U : State) : Prop := U.heap.size = sz ∧ va_P D vwCl ws U.heap ∧ va_K D vwCl (TYs cs) U ∧ va_D (fun _ => True) ws ∧ zSt (va_A ws sz) U U.heap
def zM (l : Launch) (D : va_G) (cs : ClassId × ClassId × ClassId) (y : MethodName) (bytes : ByteArray) (maxL : Nat) (ret : Option FieldType) (d : Nat) (As : List Value) (ws : va_W) (rv : Int32) (ws2 : va_W) : Prop :=
  ∀ sz : Nat, Met l y (.code y bytes maxL ret :: lw_tg) (Rmd d) (va_Pc As (zB D cs ws sz)) (va_Qi (fun v (_ : Unit) => v = rv) (fun _ t => va_P D vwCl ws2 t.heap) (va_A ws sz)) 0 0 (va_A ws sz)
def zMv (l : Launch) (D : va_G) (cs : ClassId × ClassId × ClassId) (y : MethodName) (bytes : ByteArray) (maxL : Nat) (ret : Option FieldType) (d : Nat) (As : List Value) (ws : va_W) (ws2 : va_W) : Prop :=
  ∀ sz : Nat, Met l y (.code y bytes maxL ret :: lw_tg) (Rmd d) (va_Pc As (zB D cs ws sz)) (va_Qv (fun (_ : Unit) => True) (fun _ t => va_P D vwCl ws2 t.heap) (va_A ws sz)) 0 0 (va_A ws sz)
def zMl (l : Launch) (D : va_G) (cs : ClassId × ClassId × ClassId) (y : MethodName) (bytes : ByteArray) (maxL : Nat) (ret : Option FieldType) (d : Nat) (As : List Value) (ws : va_W) (rv : Int64) (ws2 : va_W) : Prop :=
  ∀ sz : Nat, Met l y (.code y bytes maxL ret :: lw_tg) (Rmd d) (va_Pc As (zB D cs ws sz)) (va_Ql (fun v (_ : Unit) => v = rv) (fun _ t => va_P D vwCl ws2 t.heap) (va_A ws sz)) 0 0 (va_A ws sz)
theorem zB_blind {D : va_G} {cs : ClassId × ClassId × ClassId} {ws : va_W} {sz : Nat} {As : List Value} : FrameBlind (va_Pc As (zB D cs ws sz)) := fun a U g mk q => by
  obtain ⟨q0, q1, q2, q3, q4, q5⟩ := q
  exact ⟨q0, q1, q2, va_K.moved (u := U) (U := U.calling g mk a) (Vm.Alike.refl U.vm) q3, q4, zSt.moved (u := U) (U := U.calling g mk a) (Vm.Alike.refl U.vm) q5⟩
def zW (own : String) (index : Nat) (y : MethodName) (bytes : ByteArray) (maxL : Nat) (ret : Option FieldType) (n : Nat) : Prop :=
  (Cond.methodLink own index y ∈ lw_tg ∧ Cond.initialized y.cls ∈ lw_tg ∧ Cond.code y bytes maxL ret ∈ lw_tg) ∧ (y.cls ≠ "java/lang/invoke/MethodHandle" ∧ y.cls ≠ "java/lang/invoke/VarHandle" ∧ (parseMethodDescriptor y.desc).map (fun d => d.parameters.length) = some n) ∧ maxL ≤ 11
def zWI (own : String) (index : Nat) (y : MethodName) (bytes : ByteArray) (maxL : Nat) (ret : Option FieldType) (n : Nat) : Prop := zW own index y bytes maxL ret n ∧ Cond.instanceMethod y ∈ lw_tg ∧ Cond.selects y.cls y y ∈ lw_tg
def zWS (own : String) (index : Nat) (y : MethodName) (bytes : ByteArray) (maxL : Nat) (ret : Option FieldType) (n : Nat) : Prop := zW own index y bytes maxL ret n ∧ Cond.static y ∈ lw_tg
theorem zGood {y : MethodName} {bytes : ByteArray} {maxL : Nat} {ret : Option FieldType} (h : Cond.code y bytes maxL ret ∈ lw_tg) : GoodIn lw_tg (.code y bytes maxL ret :: lw_tg) := by
  intro w hw
  rcases List.mem_cons.mp hw with rfl | hw
  · exact ⟨h, (lw_good _ h).2⟩
  · exact ⟨hw, (lw_good _ hw).2⟩
section ZCALL
variable {G : GT} {cc : ByteArray} {nL : Nat} {own : String} {ret : Option FieldType} {d pc : Nat} {ls : List (Nat × Value)} {st stk : List Value} {ws ws2 : va_W}
variable {index n maxL d2 a ci N : Nat} {y : MethodName} {bytes : ByteArray} {ret2 : Option FieldType} {As : List Value} {wc w1 : va_W} {rv : Int32} {fs : List Value} {T : u_T}
theorem zCB {R : Room} {s : State} {args : Array Value} (hR : d ≤ R.frames ∧ 30 * d ≤ R.locals) (hts : ∀ w ∈ lw_tg, w.before args s = true) (w : zW own index y bytes maxL ret2 n) (hlt : d2 < d) : CallB R s args own index y bytes maxL ret2 (.code y bytes maxL ret2 :: lw_tg) (Rmd d2) 0 0 n :=
  callB_of n hts (zGood w.1.2.2) rfl rfl rfl (hts _ w.1.2.1) (hts _ w.1.1) w.2.1 (by have := w.2.2; obtain ⟨h1, h2⟩ := hR; simp only [Rmd]; omega)
theorem z_callV (is : List Nat) (C : zC G cc nL own ret d) (hd : decode cc pc = .ok (.invokevirtual index, 3)) (w : zWI own index y bytes maxL ret2 n) (hM : zM (gl G) (gD G) (gk G) y bytes maxL ret2 d2 (.ref a :: As) wc rv w1) (hlt : d2 < d) (hC : is.map (fun i => ws[i]?) = wc.map some) (hnd : va_nd is = true) (hf : w1.map Prod.fst = wc.map Prod.fst) (hr0 : wc[0]? = some (a, .inr (ci, fs))) (hr1 : vwCl[ci]? = some (y.cls, T, N)) (hn : As.length = n) (hst : stk = As.reverse ++ .ref a :: st) (hcat : (st.map fun v => v.category).sum ≤ 8) (hws : zput ws is w1 = ws2)
    (kk : zV G nL (pc + 3) ls (.int rv :: st) ws2) : zV G nL pc ls stk ws := by
  intro H locs la hP hD hS hl
  subst hst
  subst hws
  have hPc := hP.sub is (zfm hC)
  have hDc := hD.sub is hnd hC
  have hFc := va_free hD hS C.2.2.2.2.2.1 is hC
  refine va_calli (va_runV (As := As) (rest := st) C.1 (hM H.size) ⟨zCB ⟨C.2.2.1.1, C.2.2.1.2.1⟩ C.1.2.2.2.2 w.1 hlt, C.1.2.2.2.2 _ w.2.1, C.1.2.2.2.2 _ w.2.2⟩ ⟨zB_blind, va_recv C.2.1 hPc hr1 hr0, fun U hU hW => ⟨rfl, by rw [hU], by rw [hU]; exact hPc, va_K.moved hW.alike C.2.1, hDc.weaken (fun _ _ _ _ => trivial), by rw [hU]; exact ((C.2.2.2.2.2.2.kept (fun q h1 h2 => hS.2.1 q h1 h2)).narrow hFc).moved hW.alike⟩⟩ rfl hn hl.1 rfl (lv_room hcat) hd ⟨C.2.2.1.2.2.1, C.2.2.1.2.2.2⟩) hS (fun q _ h => hFc q h) hFc (fun r u t H1 locs1 ht hvm hw hB hz1 hk1 hS1 => ?_)
  rw [ht] at hB
  obtain ⟨hP1, hD1⟩ := zput_P hP hD hC hf hk1 hB
  cases hw
  exact kk H1 locs1 la hP1 hD1 hS1 hl
theorem z_callVv (is : List Nat) (C : zC G cc nL own ret d) (hd : decode cc pc = .ok (.invokevirtual index, 3)) (w : zWI own index y bytes maxL ret2 n) (hM : zMv (gl G) (gD G) (gk G) y bytes maxL ret2 d2 (.ref a :: As) wc w1) (hlt : d2 < d) (hC : is.map (fun i => ws[i]?) = wc.map some) (hnd : va_nd is = true) (hf : w1.map Prod.fst = wc.map Prod.fst) (hr0 : wc[0]? = some (a, .inr (ci, fs))) (hr1 : vwCl[ci]? = some (y.cls, T, N)) (hn : As.length = n) (hst : stk = As.reverse ++ .ref a :: st) (hcat : (st.map fun v => v.category).sum ≤ 8) (hws : zput ws is w1 = ws2)
    (kk : zV G nL (pc + 3) ls st ws2) : zV G nL pc ls stk ws := by
  intro H locs la hP hD hS hl
  subst hst
  subst hws
  have hPc := hP.sub is (zfm hC)
  have hDc := hD.sub is hnd hC
  have hFc := va_free hD hS C.2.2.2.2.2.1 is hC
  refine va_callv (va_runV (As := As) (rest := st) C.1 (hM H.size) ⟨zCB ⟨C.2.2.1.1, C.2.2.1.2.1⟩ C.1.2.2.2.2 w.1 hlt, C.1.2.2.2.2 _ w.2.1, C.1.2.2.2.2 _ w.2.2⟩ ⟨zB_blind, va_recv C.2.1 hPc hr1 hr0, fun U hU hW => ⟨rfl, by rw [hU], by rw [hU]; exact hPc, va_K.moved hW.alike C.2.1, hDc.weaken (fun _ _ _ _ => trivial), by rw [hU]; exact ((C.2.2.2.2.2.2.kept (fun q h1 h2 => hS.2.1 q h1 h2)).narrow hFc).moved hW.alike⟩⟩ rfl hn hl.1 rfl (lv_room hcat) hd ⟨C.2.2.1.2.2.1, C.2.2.1.2.2.2⟩) hS (fun q _ h => hFc q h) hFc (fun u t H1 locs1 ht hvm hw hB hz1 hk1 hS1 => ?_)
  rw [ht] at hB
  obtain ⟨hP1, hD1⟩ := zput_P hP hD hC hf hk1 hB
  exact kk H1 locs1 la hP1 hD1 hS1 hl
theorem z_callS (is : List Nat) (C : zC G cc nL own ret d) (hd : decode cc pc = .ok (.invokestatic index, 3)) (w : zWS own index y bytes maxL ret2 n) (hM : zM (gl G) (gD G) (gk G) y bytes maxL ret2 d2 As wc rv w1) (hlt : d2 < d) (hC : is.map (fun i => ws[i]?) = wc.map some) (hnd : va_nd is = true) (hf : w1.map Prod.fst = wc.map Prod.fst) (hn : As.length = n) (hst : stk = As.reverse ++ st) (hcat : (st.map fun v => v.category).sum ≤ 8) (hws : zput ws is w1 = ws2)
    (kk : zV G nL (pc + 3) ls (.int rv :: st) ws2) : zV G nL pc ls stk ws := by
  intro H locs la hP hD hS hl
  subst hst
  subst hws
  have hPc := hP.sub is (zfm hC)
  have hDc := hD.sub is hnd hC
  have hFc := va_free hD hS C.2.2.2.2.2.1 is hC
  refine va_calli (va_runS (As := As) (rest := st) C.1 (hM H.size) ⟨zCB ⟨C.2.2.1.1, C.2.2.1.2.1⟩ C.1.2.2.2.2 w.1 hlt, C.1.2.2.2.2 _ w.2⟩ ⟨zB_blind, fun U hU hW => ⟨rfl, by rw [hU], by rw [hU]; exact hPc, va_K.moved hW.alike C.2.1, hDc.weaken (fun _ _ _ _ => trivial), by rw [hU]; exact ((C.2.2.2.2.2.2.kept (fun q h1 h2 => hS.2.1 q h1 h2)).narrow hFc).moved hW.alike⟩⟩ rfl hn hl.1 rfl (lv_room hcat) hd ⟨C.2.2.1.2.2.1, C.2.2.1.2.2.2⟩) hS (fun q _ h => hFc q h) hFc (fun r u t H1 locs1 ht hvm hw hB hz1 hk1 hS1 => ?_)
  rw [ht] at hB
  obtain ⟨hP1, hD1⟩ := zput_P hP hD hC hf hk1 hB
  cases hw
  exact kk H1 locs1 la hP1 hD1 hS1 hl
theorem z_callSl {rw : Int64} (is : List Nat) (C : zC G cc nL own ret d) (hd : decode cc pc = .ok (.invokestatic index, 3)) (w : zWS own index y bytes maxL ret2 n) (hM : zMl (gl G) (gD G) (gk G) y bytes maxL ret2 d2 As wc rw w1) (hlt : d2 < d) (hC : is.map (fun i => ws[i]?) = wc.map some) (hnd : va_nd is = true) (hf : w1.map Prod.fst = wc.map Prod.fst) (hn : As.length = n) (hst : stk = As.reverse ++ st) (hcat : (st.map fun v => v.category).sum ≤ 8) (hws : zput ws is w1 = ws2)
    (kk : zV G nL (pc + 3) ls (.long rw :: st) ws2) : zV G nL pc ls stk ws := by
  intro H locs la hP hD hS hl
  subst hst
  subst hws
  have hPc := hP.sub is (zfm hC)
  have hDc := hD.sub is hnd hC
  have hFc := va_free hD hS C.2.2.2.2.2.1 is hC
  refine va_calll (va_runS (As := As) (rest := st) C.1 (hM H.size) ⟨zCB ⟨C.2.2.1.1, C.2.2.1.2.1⟩ C.1.2.2.2.2 w.1 hlt, C.1.2.2.2.2 _ w.2⟩ ⟨zB_blind, fun U hU hW => ⟨rfl, by rw [hU], by rw [hU]; exact hPc, va_K.moved hW.alike C.2.1, hDc.weaken (fun _ _ _ _ => trivial), by rw [hU]; exact ((C.2.2.2.2.2.2.kept (fun q h1 h2 => hS.2.1 q h1 h2)).narrow hFc).moved hW.alike⟩⟩ rfl hn hl.1 rfl (lv_room hcat) hd ⟨C.2.2.1.2.2.1, C.2.2.1.2.2.2⟩) hS (fun q _ h => hFc q h) hFc (fun r u t H1 locs1 ht hvm hw hB hz1 hk1 hS1 => ?_)
  rw [ht] at hB
  obtain ⟨hP1, hD1⟩ := zput_P hP hD hC hf hk1 hB
  cases hw
  exact kk H1 locs1 la hP1 hD1 hS1 hl
theorem z_callSv (is : List Nat) (C : zC G cc nL own ret d) (hd : decode cc pc = .ok (.invokestatic index, 3)) (w : zWS own index y bytes maxL ret2 n) (hM : zMv (gl G) (gD G) (gk G) y bytes maxL ret2 d2 As wc w1) (hlt : d2 < d) (hC : is.map (fun i => ws[i]?) = wc.map some) (hnd : va_nd is = true) (hf : w1.map Prod.fst = wc.map Prod.fst) (hn : As.length = n) (hst : stk = As.reverse ++ st) (hcat : (st.map fun v => v.category).sum ≤ 8) (hws : zput ws is w1 = ws2)
    (kk : zV G nL (pc + 3) ls st ws2) : zV G nL pc ls stk ws := by
  intro H locs la hP hD hS hl
  subst hst
  subst hws
  have hPc := hP.sub is (zfm hC)
  have hDc := hD.sub is hnd hC
  have hFc := va_free hD hS C.2.2.2.2.2.1 is hC
  refine va_callv (va_runS (As := As) (rest := st) C.1 (hM H.size) ⟨zCB ⟨C.2.2.1.1, C.2.2.1.2.1⟩ C.1.2.2.2.2 w.1 hlt, C.1.2.2.2.2 _ w.2⟩ ⟨zB_blind, fun U hU hW => ⟨rfl, by rw [hU], by rw [hU]; exact hPc, va_K.moved hW.alike C.2.1, hDc.weaken (fun _ _ _ _ => trivial), by rw [hU]; exact ((C.2.2.2.2.2.2.kept (fun q h1 h2 => hS.2.1 q h1 h2)).narrow hFc).moved hW.alike⟩⟩ rfl hn hl.1 rfl (lv_room hcat) hd ⟨C.2.2.1.2.2.1, C.2.2.1.2.2.2⟩) hS (fun q _ h => hFc q h) hFc (fun u t H1 locs1 ht hvm hw hB hz1 hk1 hS1 => ?_)
  rw [ht] at hB
  obtain ⟨hP1, hD1⟩ := zput_P hP hD hC hf hk1 hB
  exact kk H1 locs1 la hP1 hD1 hS1 hl
theorem zmapall : ∀ (ws : va_W), (List.range ws.length).map (fun i => ws[i]?) = ws.map some := by
  intro ws
  apply List.ext_getElem?
  intro k
  rw [List.getElem?_map, List.getElem?_map]
  by_cases h : k < ws.length
  · rw [List.getElem?_range h]
    show some (ws[k]?) = Option.map some (ws[k]?)
    rw [List.getElem?_eq_getElem h]
    rfl
  · rw [List.getElem?_eq_none (by simpa using h), List.getElem?_eq_none (by omega)]
    rfl
theorem znd_range (n : Nat) : va_nd (List.range n) = true := by
  have key : ∀ (m k : Nat), va_nd (List.range' k m) = true := by
    intro m
    induction m with
    | zero => intro k; rfl
    | succ m ih =>
      intro k
      rw [List.range'_succ]
      simp only [va_nd, Bool.and_eq_true, decide_eq_true_eq]
      refine ⟨fun h => ?_, ih (k + 1)⟩
      have := List.mem_range'_1.mp h
      omega
  rw [List.range_eq_range']
  exact key n 0
theorem zput_all {ws w1 : va_W} (h : w1.length = ws.length) : zput ws (List.range ws.length) w1 = w1 := by
  have hlt : ∀ i ∈ List.range ws.length, i < ws.length := fun i hi => List.mem_range.mp hi
  have hl : (List.range ws.length).length = w1.length := by rw [List.length_range, h]
  have hlen : ∀ (is : List Nat) (cs ws : va_W), (zput ws is cs).length = ws.length := by
    intro is
    induction is with
    | nil => intro cs ws; simp [zput]
    | cons i is ih =>
      intro cs ws
      cases cs with
      | nil => simp [zput]
      | cons c cs => simp [zput, ih]
  apply List.ext_getElem?
  intro k
  cases hk : (zput ws (List.range ws.length) w1)[k]? with
  | none =>
    have := List.getElem?_eq_none_iff.mp hk
    rw [hlen] at this
    exact (List.getElem?_eq_none (by omega)).symm
  | some q =>
    have h0 := (List.getElem?_eq_some_iff.mp hk).1
    rw [hlen] at h0
    rcases zput_get _ w1 ws hlt hl k q hk with ⟨j, h1, h2⟩ | ⟨h1, -⟩
    · have h3 := (List.getElem?_eq_some_iff.mp h1)
      obtain ⟨h4, h5⟩ := h3
      rw [List.getElem_range] at h5
      rw [← h5, h2]
    · exact absurd (List.mem_range.mpr h0) h1
/-- a call over the whole world -/
theorem z_callVs (C : zC G cc nL own ret d) (hd : decode cc pc = .ok (.invokevirtual index, 3)) (w : zWI own index y bytes maxL ret2 n) (hM : zM (gl G) (gD G) (gk G) y bytes maxL ret2 d2 (.ref a :: As) ws rv ws2) (hlt : d2 < d) (hf : ws2.map Prod.fst = ws.map Prod.fst) (hr0 : ws[0]? = some (a, .inr (ci, fs))) (hr1 : vwCl[ci]? = some (y.cls, T, N)) (hn : As.length = n) (hst : stk = As.reverse ++ .ref a :: st) (hcat : (st.map fun v => v.category).sum ≤ 8)
    (kk : zV G nL (pc + 3) ls (.int rv :: st) ws2) : zV G nL pc ls stk ws :=
  z_callV (List.range ws.length) C hd w hM hlt (zmapall ws) (znd_range _) hf hr0 hr1 hn hst hcat (zput_all (by simpa using congrArg List.length hf)) kk
theorem z_callVvs (C : zC G cc nL own ret d) (hd : decode cc pc = .ok (.invokevirtual index, 3)) (w : zWI own index y bytes maxL ret2 n) (hM : zMv (gl G) (gD G) (gk G) y bytes maxL ret2 d2 (.ref a :: As) ws ws2) (hlt : d2 < d) (hf : ws2.map Prod.fst = ws.map Prod.fst) (hr0 : ws[0]? = some (a, .inr (ci, fs))) (hr1 : vwCl[ci]? = some (y.cls, T, N)) (hn : As.length = n) (hst : stk = As.reverse ++ .ref a :: st) (hcat : (st.map fun v => v.category).sum ≤ 8)
    (kk : zV G nL (pc + 3) ls st ws2) : zV G nL pc ls stk ws :=
  z_callVv (List.range ws.length) C hd w hM hlt (zmapall ws) (znd_range _) hf hr0 hr1 hn hst hcat (zput_all (by simpa using congrArg List.length hf)) kk
theorem z_callSs (C : zC G cc nL own ret d) (hd : decode cc pc = .ok (.invokestatic index, 3)) (w : zWS own index y bytes maxL ret2 n) (hM : zM (gl G) (gD G) (gk G) y bytes maxL ret2 d2 As ws rv ws2) (hlt : d2 < d) (hf : ws2.map Prod.fst = ws.map Prod.fst) (hn : As.length = n) (hst : stk = As.reverse ++ st) (hcat : (st.map fun v => v.category).sum ≤ 8)
    (kk : zV G nL (pc + 3) ls (.int rv :: st) ws2) : zV G nL pc ls stk ws :=
  z_callS (List.range ws.length) C hd w hM hlt (zmapall ws) (znd_range _) hf hn hst hcat (zput_all (by simpa using congrArg List.length hf)) kk
theorem z_callSsl {rw : Int64} (C : zC G cc nL own ret d) (hd : decode cc pc = .ok (.invokestatic index, 3)) (w : zWS own index y bytes maxL ret2 n) (hM : zMl (gl G) (gD G) (gk G) y bytes maxL ret2 d2 As ws rw ws2) (hlt : d2 < d) (hf : ws2.map Prod.fst = ws.map Prod.fst) (hn : As.length = n) (hst : stk = As.reverse ++ st) (hcat : (st.map fun v => v.category).sum ≤ 8)
    (kk : zV G nL (pc + 3) ls (.long rw :: st) ws2) : zV G nL pc ls stk ws :=
  z_callSl (List.range ws.length) C hd w hM hlt (zmapall ws) (znd_range _) hf hn hst hcat (zput_all (by simpa using congrArg List.length hf)) kk
def zmx (x y : Int32) : Int32 := if x < y then y else x
def zmn (x y : Int32) : Int32 := if y < x then y else x
def zWM (own : String) (index : Nat) (y : MethodName) (bytes : ByteArray) : Prop := Cond.methodLink own index y ∈ lw_tg ∧ Cond.static y ∈ lw_tg ∧ Cond.initialized "java/lang/Math" ∈ lw_tg ∧ Cond.code y bytes 2 (some .int) ∈ lw_tg
theorem z_mmax {x z : Int32} (C : zC G cc nL own ret d) (hd : decode cc pc = .ok (.invokestatic index, 3)) (w : zWM own index Lib.Math.max.name Lib.Math.max.code) (hlt : 0 < d) (hcat : (st.map fun v => v.category).sum ≤ 8) (kk : zV G nL (pc + 3) ls (.int (zmx x z) :: st) ws) : zV G nL pc ls (.int z :: .int x :: st) ws := fun H locs la hP hD hS hl =>
  va_mmax C.1.1 C.1.2.1 (C.1.2.2.1.trans hl.1.symm) C.1.2.2.2.1 (C.1.2.2.2.2 _ w.1) (C.1.2.2.2.2 _ w.2.1) (C.1.2.2.2.2 _ w.2.2.1) (C.1.2.2.2.2 _ w.2.2.2) (Nat.le_trans hlt C.2.2.1.1) (by have := C.2.2.1.2.1; omega) C.2.2.1.2.2.1 C.2.2.1.2.2.2 hd (kk H locs la hP hD hS hl)
theorem z_mmin {x z : Int32} (C : zC G cc nL own ret d) (hd : decode cc pc = .ok (.invokestatic index, 3)) (w : zWM own index Lib.Math.min.name Lib.Math.min.code) (hlt : 0 < d) (hcat : (st.map fun v => v.category).sum ≤ 8) (kk : zV G nL (pc + 3) ls (.int (zmn x z) :: st) ws) : zV G nL pc ls (.int z :: .int x :: st) ws := fun H locs la hP hD hS hl =>
  va_mmin C.1.1 C.1.2.1 (C.1.2.2.1.trans hl.1.symm) C.1.2.2.2.1 (C.1.2.2.2.2 _ w.1) (C.1.2.2.2.2 _ w.2.1) (C.1.2.2.2.2 _ w.2.2.1) (C.1.2.2.2.2 _ w.2.2.2) (Nat.le_trans hlt C.2.2.1.1) (by have := C.2.2.1.2.1; omega) C.2.2.1.2.2.1 C.2.2.1.2.2.2 hd (kk H locs la hP hD hS hl)
def zWC (own : String) (index : Nat) : Prop := Cond.methodLink own index arraycopyName ∈ lw_tg ∧ Cond.native arraycopyName ∈ lw_tg ∧ Cond.static arraycopyName ∈ lw_tg ∧ Cond.initialized "java/lang/System" ∈ lw_tg
theorem z_copy (q0 q1 : Nat) {n0 n1 a0 a1 s0 d0 c0 : Nat} {f g g2 : Nat → Int32} {sp dp cn : Int32} (C : zC G cc nL own ret d) (hd : decode cc pc = .ok (.invokestatic index, 3)) (w : zWC own index) (hlt : 0 < d) (hcat : (st.map fun v => v.category).sum ≤ 8) (ha0 : ws[q0]? = some (a0, aI (gk G) n0 f)) (ha1 : ws[q1]? = some (a1, aI (gk G) n1 g)) (h1 : ¬ sp < 0 ∧ sp.toNatClampNeg = s0) (h2 : ¬ dp < 0 ∧ dp.toNatClampNeg = d0) (h3 : ¬ cn < 0 ∧ cn.toNatClampNeg = c0) (h4 : s0 + c0 ≤ n0) (h5 : d0 + c0 ≤ n1) (he : va_cpy f g s0 d0 c0 = g2) (hws : ws.set q1 (a1, aI (gk G) n1 g2) = ws2)
    (kk : zV G nL (pc + 3) ls st ws2) : zV G nL pc ls (.int cn :: .int dp :: .ref a1 :: .int sp :: .ref a0 :: st) ws := by
  intro H locs la hP hD hS hl
  obtain ⟨h1, rfl⟩ := h1
  obtain ⟨h2, rfl⟩ := h2
  obtain ⟨h3, rfl⟩ := h3
  subst he
  subst hws
  have hfr : 1 ≤ (gR G).frames := Nat.le_trans hlt C.2.2.1.1
  have hlo : (st.map fun v => v.category).sum + (nativeFrameWords "java/lang/System" "arraycopy" 5 + 11) ≤ (gR G).locals := by
    have h9 : nativeFrameWords "java/lang/System" "arraycopy" 5 + 11 ≤ 22 := by decide +kernel
    have h8 := C.2.2.1.2.1
    omega
  exact va_copyi C.1.1 C.1.2.1 (C.1.2.2.1.trans hl.1.symm) C.1.2.2.2.1 (C.1.2.2.2.2 _ w.1) (C.1.2.2.2.2 _ w.2.1) (C.1.2.2.2.2 _ w.2.2.1) (C.1.2.2.2.2 _ w.2.2.2) C.2.1 hP hD hS q0 q1 0 0 ha0 ha1 rfl rfl rfl h1 h2 h3 h4 h5 (fun _ _ => rfl) hfr hlo hd (fun H1 locs1 hP1 hD1 hS1 => kk H1 locs1 la hP1 hD1 hS1 hl)
end ZCALL
section ZOF
variable {l : Launch} {D : va_G} {cs : ClassId × ClassId × ClassId} {y : MethodName} {bytes : ByteArray} {maxL d : Nat} {ret : Option FieldType} {As : List Value} {ws ws2 : va_W} {rv : Int32}
theorem zM_of (hy : plainName y.cls = true) (ha : (lg_sl As).length ≤ maxL)
    (body : ∀ G : GT, gl G = l → gD G = D → gk G = cs → zC G bytes maxL y.cls ret d → zF G (some (.int rv)) ws2 → zV G maxL 0 (lv_args 0 As) [] ws) : zM l D cs y bytes maxL ret d As ws rv ws2 := by
  intro sz
  refine Met.ofW (cc := bytes) (maxL := maxL) (ret := ret) hy rfl ?_
  intro p e s m args below meth c s₁ B hml hv
  obtain ⟨rfl, hsz, hP, hK, hD0, hSt⟩ := hv
  subst hsz
  have hts := atoms_spec (ws := .code y bytes maxL ret :: lw_tg) B.pre
  have hl := lv_entry As (n := maxL) ha
  rw [lg_entry_eq]
  exact body (p, l, e, Rmd d, s, m, As.toArray, below, meth, c, D, cs, va_A ws s.heap.size, va_Qi (fun v (_ : Unit) => v = rv) (fun _ t => va_P D vwCl ws2 t.heap) (va_A ws s.heap.size), (0, 0), MQ below (va_Qi (fun v (_ : Unit) => v = rv) (fun _ t => va_P D vwCl ws2 t.heap) (va_A ws s.heap.size)) As.toArray s 0 0 (va_A ws s.heap.size)) rfl rfl rfl
    ⟨⟨B.exec, B.bytes, hml, findClass_of_methodNamed B.named, fun w hw => hts w (List.mem_cons_of_mem _ hw)⟩, hK, ⟨Nat.le_refl _, Nat.le_refl _, Nat.zero_le _, Nat.zero_le _⟩, B.notSynchronized, B.returns, fun q h => Or.inr h, hSt⟩
    ⟨⟨rfl, rfl⟩, fun H locs t hP2 hS2 ht => ⟨⟨rv, (), rfl, rfl, by show va_P D vwCl ws2 t.heap; rw [ht]; exact hP2⟩, va_S.F hS2 ht⟩⟩ s.heap [] _ hP (hD0.self) va_S.rf hl
theorem zMv_of (hy : plainName y.cls = true) (ha : (lg_sl As).length ≤ maxL)
    (body : ∀ G : GT, gl G = l → gD G = D → gk G = cs → zC G bytes maxL y.cls ret d → zF G none ws2 → zV G maxL 0 (lv_args 0 As) [] ws) : zMv l D cs y bytes maxL ret d As ws ws2 := by
  intro sz
  refine Met.ofW (cc := bytes) (maxL := maxL) (ret := ret) hy rfl ?_
  intro p e s m args below meth c s₁ B hml hv
  obtain ⟨rfl, hsz, hP, hK, hD0, hSt⟩ := hv
  subst hsz
  have hts := atoms_spec (ws := .code y bytes maxL ret :: lw_tg) B.pre
  have hl := lv_entry As (n := maxL) ha
  rw [lg_entry_eq]
  exact body (p, l, e, Rmd d, s, m, As.toArray, below, meth, c, D, cs, va_A ws s.heap.size, va_Qv (fun (_ : Unit) => True) (fun _ t => va_P D vwCl ws2 t.heap) (va_A ws s.heap.size), (0, 0), MQ below (va_Qv (fun (_ : Unit) => True) (fun _ t => va_P D vwCl ws2 t.heap) (va_A ws s.heap.size)) As.toArray s 0 0 (va_A ws s.heap.size)) rfl rfl rfl
    ⟨⟨B.exec, B.bytes, hml, findClass_of_methodNamed B.named, fun w hw => hts w (List.mem_cons_of_mem _ hw)⟩, hK, ⟨Nat.le_refl _, Nat.le_refl _, Nat.zero_le _, Nat.zero_le _⟩, B.notSynchronized, B.returns, fun q h => Or.inr h, hSt⟩
    ⟨⟨rfl, rfl⟩, fun H locs t hP2 hS2 ht => ⟨⟨(), rfl, trivial, by show va_P D vwCl ws2 t.heap; rw [ht]; exact hP2⟩, va_S.F hS2 ht⟩⟩ s.heap [] _ hP (hD0.self) va_S.rf hl
theorem zMl_of {rv : Int64} (hy : plainName y.cls = true) (ha : (lg_sl As).length ≤ maxL)
    (body : ∀ G : GT, gl G = l → gD G = D → gk G = cs → zC G bytes maxL y.cls ret d → zF G (some (.long rv)) ws2 → zV G maxL 0 (lv_args 0 As) [] ws) : zMl l D cs y bytes maxL ret d As ws rv ws2 := by
  intro sz
  refine Met.ofW (cc := bytes) (maxL := maxL) (ret := ret) hy rfl ?_
  intro p e s m args below meth c s₁ B hml hv
  obtain ⟨rfl, hsz, hP, hK, hD0, hSt⟩ := hv
  subst hsz
  have hts := atoms_spec (ws := .code y bytes maxL ret :: lw_tg) B.pre
  have hl := lv_entry As (n := maxL) ha
  rw [lg_entry_eq]
  exact body (p, l, e, Rmd d, s, m, As.toArray, below, meth, c, D, cs, va_A ws s.heap.size, va_Ql (fun v (_ : Unit) => v = rv) (fun _ t => va_P D vwCl ws2 t.heap) (va_A ws s.heap.size), (0, 0), MQ below (va_Ql (fun v (_ : Unit) => v = rv) (fun _ t => va_P D vwCl ws2 t.heap) (va_A ws s.heap.size)) As.toArray s 0 0 (va_A ws s.heap.size)) rfl rfl rfl
    ⟨⟨B.exec, B.bytes, hml, findClass_of_methodNamed B.named, fun w hw => hts w (List.mem_cons_of_mem _ hw)⟩, hK, ⟨Nat.le_refl _, Nat.le_refl _, Nat.zero_le _, Nat.zero_le _⟩, B.notSynchronized, B.returns, fun q h => Or.inr h, hSt⟩
    ⟨⟨rfl, rfl⟩, fun H locs t hP2 hS2 ht => ⟨⟨rv, (), rfl, rfl, by show va_P D vwCl ws2 t.heap; rw [ht]; exact hP2⟩, va_S.F hS2 ht⟩⟩ s.heap [] _ hP (hD0.self) va_S.rf hl
end ZOF
/-- the worlds -/
abbrev zA : Type := Nat → Int32
def HW (cs : ClassId × ClassId × ClassId) (h r fl : Nat) (row flow : Nat → Int32) : va_W := [(h, .inr (0, [.ref r, .ref fl])), (r, aI cs 125 row), (fl, aI cs 10 flow)]
def PW (cs : ClassId × ClassId × ClassId) (h q : Nat) (codes pf : Nat → Int32) : va_W := [(h, .inr (1, [.ref q, .int (pf 1), .int (pf 2), .int (pf 3), .int (pf 4), .int (pf 5), .int (pf 6)])), (q, aI cs 80 codes)]
def FW (cs : ClassId × ClassId × ClassId) (ad : Nat → Nat) (nr nf tr tf co pf : Nat → Int32) (hi sl : Nat → Nat → Int32) (sv ff : Nat → Int32) : va_W := [(ad 0, .inr (2, [.ref (ad 1), .ref (ad 4), .ref (ad 7), .ref (ad 9), .ref (ad 17), .ref (ad 20), .int (ff 6), .int (ff 7)])), (ad 1, .inr (0, [.ref (ad 2), .ref (ad 3)])), (ad 2, aI cs 125 nr), (ad 3, aI cs 10 nf), (ad 4, .inr (0, [.ref (ad 5), .ref (ad 6)])), (ad 5, aI cs 125 tr), (ad 6, aI cs 10 tf), (ad 7, .inr (1, [.ref (ad 8), .int (pf 1), .int (pf 2), .int (pf 3), .int (pf 4), .int (pf 5), .int (pf 6)])), (ad 8, aI cs 80 co), (ad 9, aQ cs 7 (fun j => if j < 7 then some (ad (10 + j)) else none)), (ad 10, aI cs 125 (hi 0)), (ad 11, aI cs 125 (hi 1)), (ad 12, aI cs 125 (hi 2)), (ad 13, aI cs 125 (hi 3)), (ad 14, aI cs 125 (hi 4)), (ad 15, aI cs 125 (hi 5)), (ad 16, aI cs 125 (hi 6)), (ad 17, aQ cs 2 (fun j => if j < 2 then some (ad (18 + j)) else none)), (ad 18, aI cs 125 (sl 0)), (ad 19, aI cs 125 (sl 1)), (ad 20, aZ cs 2 sv)]
theorem FWf (cs : ClassId × ClassId × ClassId) (ad : Nat → Nat) (nr nf tr tf co pf : zA) (hi sl : Nat → zA) (sv ff : zA) (nr2 nf2 tr2 tf2 co2 pf2 : zA) (hi2 sl2 : Nat → zA) (sv2 ff2 : zA) : (FW cs ad nr nf tr tf co pf hi sl sv ff).map Prod.fst = (FW cs ad nr2 nf2 tr2 tf2 co2 pf2 hi2 sl2 sv2 ff2).map Prod.fst := rfl
/-- a word of the script, or behind its end -/
def cellf (L : Nat) (xs : zA) (k : Int32) : Option Int32 := if nI L ≤ k then some ((957851075 * (k + 1)) + 365160361) else gd k L fun j => some (xs j)
