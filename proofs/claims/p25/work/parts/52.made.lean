/-! Making the objects: a judgement with counters -/
def iC (G : GT) (cc : ByteArray) (nL : Nat) (own : String) : Prop :=
  ((gp G).tables.exec = Jvm.exec ∧ (gc G).code = cc ∧ (gc G).maxLocals = nL ∧ (gs G).vm.findClass own = some (gm G).cls ∧ ∀ w ∈ lw_tg, w.before (ga G) (gs G) = true) ∧
  va_K (gD G) vwCl (TYs (gk G)) (gs G) ∧ (∀ q : Nat, (gs G).heap.size ≤ q → gA G q) ∧ zAO (gs G)
def iJ (G : GT) (Q : State → Prop) (nL k n pc : Nat) (ls : List (Nat × Value)) (st : List Value) (ws : va_W) : Prop :=
  ∀ (H : Heap) (locs : List Loc) (la : Array Slot), va_P (gD G) vwCl ws H → va_D (gA G) ws → va_S (gA G) (gs G).heap H locs → lv_has la nL ls →
    W (gp G) (gl G) (ge G) (gR G) (gs G) (gm G) (ga G) (gb G) (gt G) (gc G) H locs k n Q (F0 (gm G) pc la st)
section IROWS
variable {G : GT} {Q : State → Prop} {cc : ByteArray} {nL k n pc : Nat} {own : String} {ls : List (Nat × Value)} {st : List Value} {ws : va_W}
theorem i_ald {m : Fin 4} {a : Nat} (j : Nat) (C : iC G cc nL own) (hd : decode cc pc = .ok (.aload_n m, 1)) (hj : ls[j]? = some ((m : Nat), .ref a)) (kk : iJ G Q nL k n (pc + 1) ls (.ref a :: st) ws) : iJ G Q nL k n pc ls st ws := fun H locs la hP hD hS hl => lv_aload_n C.1.1 C.1.2.1 hd rfl (lv_at hl j hj) (kk H locs la hP hD hS hl)
theorem i_icn {z : Int} {v : Int32} (C : iC G cc nL own) (hd : decode cc pc = .ok (.iconst z, 1)) (hv : Int32.ofInt z = v) (kk : iJ G Q nL k n (pc + 1) ls (.int v :: st) ws) : iJ G Q nL k n pc ls st ws := fun H locs la hP hD hS hl => lv_iconst C.1.1 C.1.2.1 hd hv (kk H locs la hP hD hS hl)
theorem i_bip {z : Int} {v : Int32} (C : iC G cc nL own) (hd : decode cc pc = .ok (.bipush z, 2)) (hv : (Int8.ofInt z).toInt32 = v) (kk : iJ G Q nL k n (pc + 2) ls (.int v :: st) ws) : iJ G Q nL k n pc ls st ws := fun H locs la hP hD hS hl => lv_bipush C.1.1 C.1.2.1 hd hv (kk H locs la hP hD hS hl)
theorem i_sip {z : Int} {v : Int32} (C : iC G cc nL own) (hd : decode cc pc = .ok (.sipush z, 3)) (hv : (Int16.ofInt z).toInt32 = v) (kk : iJ G Q nL k n (pc + 3) ls (.int v :: st) ws) : iJ G Q nL k n pc ls st ws := fun H locs la hP hD hS hl => lv_sipush C.1.1 C.1.2.1 hd hv (kk H locs la hP hD hS hl)
theorem i_dup {v : Value} (C : iC G cc nL own) (hd : decode cc pc = .ok (.dup, 1)) (hv : v.category = 1) (kk : iJ G Q nL k n (pc + 1) ls (v :: v :: st) ws) : iJ G Q nL k n pc ls (v :: st) ws := fun H locs la hP hD hS hl => lv_dup C.1.1 C.1.2.1 hd hv (kk H locs la hP hD hS hl)
theorem i_obj {a idx : Nat} (C : iC G cc nL own) (hd : decode cc pc = .ok (.invokespecial idx, 3)) (hw : Cond.methodLink own idx objectInit ∈ lw_tg) (hf : 1 ≤ (gR G).frames) (hlo : 30 ≤ (gR G).locals) (kk : iJ G Q nL k n (pc + 3) ls [] ws) : iJ G Q nL k n pc ls [.ref a] ws := fun H locs la hP hD hS hl => by
  refine W.objInit C.1.1 C.1.2.1 C.1.2.2.2.1 (C.1.2.2.2.2 _ hw) (C.1.2.2.2.2 _ tw_330) (C.1.2.2.2.2 _ tw_331) rfl (hl.1.trans C.1.2.2.1.symm) rfl hd hf (Nat.le_trans (Nat.le_of_ble_eq_true rfl) hlo) ?_
  exact W.eq (g2 := F0 (gm G) (pc + 3) la []) rfl (kk H locs la hP hD hS hl)
theorem i_newI {N : Nat} {x : Int32} (C : iC G cc nL own) (hd : decode cc pc = .ok (.newarray .int, 2)) (hx : ¬ x < 0 ∧ x.toNatClampNeg = N) (hN : N ≤ 2000) (hc : k + 1 ≤ (gR G).cells) (hs : n + N ≤ (gR G).slots) (kk : ∀ q : Nat, iJ G Q nL (k + 1) (n + N) (pc + 2) ls (.ref q :: st) (ws ++ [(q, aI (gk G) N (fun _ => 0))])) : iJ G Q nL k n pc ls (.int x :: st) ws := fun H locs la hP hD hS hl => by
  refine va_newa (atype := .int) (ty := .int) (a0 := (N, .inl (fun _ => 0))) C.1.1 C.1.2.1 (C.1.2.2.2.2 _ tw_337) rfl C.2.1 hP hD hS C.2.2.1 (fun _ => rfl) hx.1 hx.2 (show N * 4 ≤ 536870912 by omega) hc hs hd (fun q cA H1 hK1 hP1 hD1 hS1 => ?_)
  have e : cA = (gk G).1 := by
    have h1 : (gs G).vm.findClass ("[" ++ FieldType.int.toString) = some cA := (hK1.2 3 (cA, .int) rfl).2
    have h2 : (gs G).vm.findClass ("[" ++ FieldType.int.toString) = some (gk G).1 := (C.2.1.2 0 ((gk G).1, .int) rfl).2
    exact Option.some.inj (h1.symm.trans h2)
  subst e
  exact kk q H1 locs la hP1 hD1 hS1 hl
theorem i_newZ {N : Nat} {x : Int32} (C : iC G cc nL own) (hd : decode cc pc = .ok (.newarray .boolean, 2)) (hx : ¬ x < 0 ∧ x.toNatClampNeg = N) (hN : N ≤ 2000) (hc : k + 1 ≤ (gR G).cells) (hs : n + N ≤ (gR G).slots) (kk : ∀ q : Nat, iJ G Q nL (k + 1) (n + N) (pc + 2) ls (.ref q :: st) (ws ++ [(q, aZ (gk G) N (fun _ => 0))])) : iJ G Q nL k n pc ls (.int x :: st) ws := fun H locs la hP hD hS hl => by
  refine va_newa (atype := .boolean) (ty := .boolean) (a0 := (N, .inl (fun _ => 0))) C.1.1 C.1.2.1 (C.1.2.2.2.2 _ tw_338) rfl C.2.1 hP hD hS C.2.2.1 (fun _ => rfl) hx.1 hx.2 (show N * 1 ≤ 536870912 by omega) hc hs hd (fun q cA H1 hK1 hP1 hD1 hS1 => ?_)
  have e : cA = (gk G).2.1 := by
    have h1 : (gs G).vm.findClass ("[" ++ FieldType.boolean.toString) = some cA := (hK1.2 3 (cA, .boolean) rfl).2
    have h2 : (gs G).vm.findClass ("[" ++ FieldType.boolean.toString) = some (gk G).2.1 := (C.2.1.2 1 ((gk G).2.1, .boolean) rfl).2
    exact Option.some.inj (h1.symm.trans h2)
  subst e
  exact kk q H1 locs la hP1 hD1 hS1 hl
theorem i_new {index ci N : Nat} {Cn : String} {T : u_T} {fs : List Value} (C : iC G cc nL own) (hd : decode cc pc = .ok (.new index, 3)) (hc : vwCl[ci]? = some (Cn, T, N)) (hin : ∀ w ∈ u_ws Cn T N, w ∈ lw_tg) (ty0 : Nat → FieldType) (hty : ∀ k, k < N → parseFieldDescriptor (T k).2.2.1 = some (ty0 k)) (h1 : Cond.classLink own index Cn ∈ lw_tg) (h2 : Cond.instantiable Cn N ∈ lw_tg) (h3 : Cond.initialized Cn ∈ lw_tg) (hfs : ∀ j, j < N → defaultValue (ty0 j) = vp_V fs j) (hk : k + 1 ≤ (gR G).cells) (hs : n + N ≤ (gR G).slots) (kk : ∀ q : Nat, iJ G Q nL (k + 1) (n + N) (pc + 3) ls (.ref q :: st) (ws ++ [(q, .inr (ci, fs))])) : iJ G Q nL k n pc ls st ws := fun H locs la hP hD hS hl =>
  va_new C.1.1 C.1.2.1 C.1.2.2.2.2 hin ty0 hty C.1.2.2.2.1 (C.1.2.2.2.2 _ h1) (C.1.2.2.2.2 _ h2) (C.1.2.2.2.2 _ h3) C.2.1 hP hD hS C.2.2.1 hc hfs hk hs hd (fun q H1 hP1 hD1 hS1 => kk q H1 locs la hP1 hD1 hS1 hl)
theorem i_putF {index ci N a : Nat} {Cn : String} {T : u_T} {fs : List Value} {v : Value} {ws' : va_W} (q0 kf : Nat) (C : iC G cc nL own) (hd : decode cc pc = .ok (.putfield index, 3)) (hc : vwCl[ci]? = some (Cn, T, N)) (hin : ∀ w ∈ u_ws Cn T N, w ∈ lw_tg) (ty0 : Nat → FieldType) (hty : ∀ k, k < N → parseFieldDescriptor (T k).2.2.1 = some (ty0 k)) (hnm : ∀ a, a < N → ∀ b, b < N → a ≠ b → (T a).2.1 ≠ (T b).2.1) (hk : kf < N) (hlink : Cond.fieldLink own index (T kf).1 (T kf).2.1 (T kf).2.2.1 ∈ lw_tg) (hfin : (T kf).2.2.2 = true) (hin2 : (gt G).name = "<init>") (hdecl : (T kf).1 = own) (hn : narrow (ty0 kf) v = v) (hfit : fits (ty0 kf) v = true) (he : ws[q0]? = some (a, .inr (ci, fs))) (hlen : kf < fs.length) (hw : ws.set q0 (a, .inr (ci, fs.set kf v)) = ws') (kk : iJ G Q nL k n (pc + 3) ls st ws') : iJ G Q nL k n pc ls (v :: .ref a :: st) ws := by
  subst hw
  exact fun H locs la hP hD hS hl => va_putF C.1.1 C.1.2.1 C.1.2.2.2.2 hin ty0 hty hnm C.1.2.2.2.1 C.2.1 hP hD hS q0 he hc kf hk (C.1.2.2.2.2 _ hlink) (fun _ h => h) hfin hin2 hdecl (hty kf hk) hn hfit hlen hd (fun H1 locs1 hP1 hD1 hS1 => kk H1 locs1 la hP1 hD1 hS1 hl)
theorem i_put {index ci N a : Nat} {Cn : String} {T : u_T} {fs : List Value} {v : Value} {ws' : va_W} (q0 kf : Nat) (C : iC G cc nL own) (hd : decode cc pc = .ok (.putfield index, 3)) (hc : vwCl[ci]? = some (Cn, T, N)) (hin : ∀ w ∈ u_ws Cn T N, w ∈ lw_tg) (ty0 : Nat → FieldType) (hty : ∀ k, k < N → parseFieldDescriptor (T k).2.2.1 = some (ty0 k)) (hnm : ∀ a, a < N → ∀ b, b < N → a ≠ b → (T a).2.1 ≠ (T b).2.1) (hk : kf < N) (hlink : Cond.fieldLink own index (T kf).1 (T kf).2.1 (T kf).2.2.1 ∈ lw_tg) (hfin : (T kf).2.2.2 = false) (hn : narrow (ty0 kf) v = v) (hfit : fits (ty0 kf) v = true) (he : ws[q0]? = some (a, .inr (ci, fs))) (hlen : kf < fs.length) (hw : ws.set q0 (a, .inr (ci, fs.set kf v)) = ws') (kk : iJ G Q nL k n (pc + 3) ls st ws') : iJ G Q nL k n pc ls (v :: .ref a :: st) ws := by
  subst hw
  exact fun H locs la hP hD hS hl => va_put C.1.1 C.1.2.1 C.1.2.2.2.2 hin ty0 hty hnm C.1.2.2.2.1 C.2.1 hP hD hS q0 he hc kf hk (C.1.2.2.2.2 _ hlink) (fun _ h => h) hfin (hty kf hk) hn hfit hlen hd (fun H1 locs1 hP1 hD1 hS1 => kk H1 locs1 la hP1 hD1 hS1 hl)
theorem i_get {index ci N a : Nat} {Cn : String} {T : u_T} {fs : List Value} {v : Value} (q0 kf : Nat) (C : iC G cc nL own) (hd : decode cc pc = .ok (.getfield index, 3)) (hc : vwCl[ci]? = some (Cn, T, N)) (hin : ∀ w ∈ u_ws Cn T N, w ∈ lw_tg) (hk : kf < N) (hlink : Cond.fieldLink own index (T kf).1 (T kf).2.1 (T kf).2.2.1 ∈ lw_tg) (he : ws[q0]? = some (a, .inr (ci, fs))) (hv : fs[kf]? = some v) (kk : iJ G Q nL k n (pc + 3) ls (v :: st) ws) : iJ G Q nL k n pc ls (.ref a :: st) ws :=
  fun H locs la hP hD hS hl => va_get C.1.1 C.1.2.1 C.1.2.2.2.2 hin C.1.2.2.2.1 C.2.1 hP q0 he hc kf hk (C.1.2.2.2.2 _ hlink) (fun _ h => h) hv hd (kk H locs la hP hD hS hl)
theorem i_iast (q0 : Nat) {N : Nat} {f : Nat → Int32} {a j : Nat} {x : Int32} {ws' : va_W} (C : iC G cc nL own) (hd : decode cc pc = .ok (.iastore, 1)) (hj : j < N) (hN : N ≤ 2000) (ha : ws[q0]? = some (a, aI (gk G) N f)) (hw : ws.set q0 (a, aI (gk G) N (upd f j x)) = ws') (kk : iJ G Q nL k n (pc + 1) ls st ws') : iJ G Q nL k n pc ls (.int x :: .int (nI j) :: .ref a :: st) ws := by
  subst hw
  refine fun H locs la hP hD hS hl => va_iast C.1.1 C.1.2.1 C.2.1 hP hD hS q0 0 ha rfl (vp_in_nI hj (by omega)) hd (fun H1 locs1 hP1 hD1 hS1 => kk H1 locs1 la ?_ ?_ hS1 hl)
  · rw [nI_clamp (by omega)] at hP1; exact hP1
  · rw [nI_clamp (by omega)] at hD1; exact hD1
end IROWS
/-- a constructor's contract: from the bare object to one of the worlds of 'post' -/
def zI (l : Launch) (D : va_G) (cs : ClassId × ClassId × ClassId) (y : MethodName) (bytes : ByteArray) (rm : Room) (ci : Nat) (fs : List Value) (post : Nat → va_W → Prop) : Prop :=
  ∀ h0 sz : Nat, Met l y (.code y bytes 1 none :: lw_tg) rm (va_Pc [.ref h0] (fun U => U.heap.size = sz ∧ va_P D vwCl [(h0, .inr (ci, fs))] U.heap ∧ va_K D vwCl (TYs cs) U ∧ va_D (fun _ => True) [(h0, .inr (ci, fs))] ∧ zAO U)) (va_Qv (fun w : va_W => post h0 w) (fun w t => va_P D vwCl w t.heap ∧ va_D (va_A [(h0, .inr (ci, fs))] sz) w) (va_A [(h0, .inr (ci, fs))] sz)) rm.cells rm.slots (va_A [(h0, .inr (ci, fs))] sz)
theorem zI_of {l : Launch} {D : va_G} {cs : ClassId × ClassId × ClassId} {y : MethodName} {bytes : ByteArray} {rm : Room} {ci : Nat} {fs : List Value} {post : Nat → va_W → Prop} (hy : plainName y.cls = true) (hyn : y.name = "<init>")
    (body : ∀ (G : GT) (Q : State → Prop) (h0 : Nat), gl G = l → gD G = D → gk G = cs → gR G = rm → iC G bytes 1 y.cls → (gt G).name = "<init>" → (∀ (pc : Nat) (ls : List (Nat × Value)) (w : va_W), decode bytes pc = .ok (.return_, 1) → post h0 w → iJ G Q 1 rm.cells rm.slots pc ls [] w) → iJ G Q 1 0 0 0 [(0, .ref h0)] [] [(h0, .inr (ci, fs))]) : zI l D cs y bytes rm ci fs post := by
  intro h0 sz
  refine Met.ofW (cc := bytes) (maxL := 1) (ret := none) hy rfl ?_
  intro p e s m args below meth c s₁ B hml hv
  obtain ⟨rfl, hsz, hP, hK, hD0, hAO⟩ := hv
  subst hsz
  have hts := atoms_spec (ws := .code y bytes 1 none :: lw_tg) B.pre
  have hl := lv_entry [.ref h0] (n := 1) (Nat.le_of_ble_eq_true rfl)
  rw [lg_entry_eq]
  have hin : meth.name = "<init>" := ((name_of_methodNamed B.named B.method).1).trans hyn
  exact body (p, l, e, rm, s, m, #[.ref h0], below, meth, c, D, cs, va_A [(h0, .inr (ci, fs))] s.heap.size, fun _ _ _ _ => True, (0, 0), fun _ => True) _ h0 rfl rfl rfl rfl
    ⟨⟨B.exec, B.bytes, hml, findClass_of_methodNamed B.named, fun w hw => hts w (List.mem_cons_of_mem _ hw)⟩, hK, fun q h => Or.inr h, hAO⟩ hin
    (fun pc ls w hd hw H locs la hP2 hD2 hS2 hl2 => W.vret B.exec B.bytes B.returns (fun t ht _ => ⟨⟨w, rfl, hw, by rw [ht]; exact hP2, hD2⟩, va_S.F hS2 ht⟩) hS2.2.2 hd B.notSynchronized) s.heap [] _ hP (hD0.self) va_S.rf hl
