/-! The law's own walk (printed by law.py) -/
def LC (G : GT) (b L : Nat) (xs : Nat → Int32) : Prop :=
  ((gp G).tables.exec = Jvm.exec) ∧ ((gc G).code = cL_law) ∧ ((gt G).sig.returnType = ret) ∧ ((gc G).maxLocals = 4) ∧ ((gs G).vm.findClass RL = some (gm G).cls) ∧ (∀ w ∈ lw_tg, w.before #[Value.ref b] (gs G) = true) ∧ (va_X b L xs (gs G) (gs G).heap) ∧ (b < (gs G).heap.size) ∧ ((gt G).locks = false) ∧ (va_K (gD G) vwCl (TYs (gk G)) (gs G)) ∧ (∀ q : Nat, (gs G).heap.size ≤ q → gA G q) ∧ (¬ gA G b) ∧ (∀ q : Nat, gA G q → (gs G).heap.size ≤ q) ∧ (zSt (gA G) (gs G) (gs G).heap) ∧ (L ≤ 2048)
theorem LC.hx {G : GT} {b L : Nat} {xs : Nat → Int32} (h : LC G b L xs) : (gp G).tables.exec = Jvm.exec := h.1
theorem LC.hb {G : GT} {b L : Nat} {xs : Nat → Int32} (h : LC G b L xs) : (gc G).code = cL_law := h.2.1
theorem LC.hr {G : GT} {b L : Nat} {xs : Nat → Int32} (h : LC G b L xs) : (gt G).sig.returnType = ret := h.2.2.1
theorem LC.hml {G : GT} {b L : Nat} {xs : Nat → Int32} (h : LC G b L xs) : (gc G).maxLocals = 4 := h.2.2.2.1
theorem LC.own {G : GT} {b L : Nat} {xs : Nat → Int32} (h : LC G b L xs) : (gs G).vm.findClass RL = some (gm G).cls := h.2.2.2.2.1
theorem LC.wd {G : GT} {b L : Nat} {xs : Nat → Int32} (h : LC G b L xs) : ∀ w ∈ lw_tg, w.before #[Value.ref b] (gs G) = true := h.2.2.2.2.2.1
theorem LC.X {G : GT} {b L : Nat} {xs : Nat → Int32} (h : LC G b L xs) : va_X b L xs (gs G) (gs G).heap := h.2.2.2.2.2.2.1
theorem LC.bl {G : GT} {b L : Nat} {xs : Nat → Int32} (h : LC G b L xs) : b < (gs G).heap.size := h.2.2.2.2.2.2.2.1
theorem LC.lk {G : GT} {b L : Nat} {xs : Nat → Int32} (h : LC G b L xs) : (gt G).locks = false := h.2.2.2.2.2.2.2.2.1
theorem LC.K {G : GT} {b L : Nat} {xs : Nat → Int32} (h : LC G b L xs) : va_K (gD G) vwCl (TYs (gk G)) (gs G) := h.2.2.2.2.2.2.2.2.2.1
theorem LC.A {G : GT} {b L : Nat} {xs : Nat → Int32} (h : LC G b L xs) : ∀ q : Nat, (gs G).heap.size ≤ q → gA G q := h.2.2.2.2.2.2.2.2.2.2.1
theorem LC.bA {G : GT} {b L : Nat} {xs : Nat → Int32} (h : LC G b L xs) : ¬ gA G b := h.2.2.2.2.2.2.2.2.2.2.2.1
theorem LC.fr {G : GT} {b L : Nat} {xs : Nat → Int32} (h : LC G b L xs) : ∀ q : Nat, gA G q → (gs G).heap.size ≤ q := h.2.2.2.2.2.2.2.2.2.2.2.2.1
theorem LC.St {G : GT} {b L : Nat} {xs : Nat → Int32} (h : LC G b L xs) : zSt (gA G) (gs G) (gs G).heap := h.2.2.2.2.2.2.2.2.2.2.2.2.2.1
theorem LC.hL {G : GT} {b L : Nat} {xs : Nat → Int32} (h : LC G b L xs) : L ≤ 2048 := h.2.2.2.2.2.2.2.2.2.2.2.2.2.2
def lJ (G : GT) (b pc : Nat) (ls : List (Nat × Value)) (st : List Value) (ws : va_W) : Prop :=
  ∀ (H : Heap) (locs : List Loc) (la : Array Slot), va_P (gD G) vwCl ws H → va_D (gA G) ws → va_S (gA G) (gs G).heap H locs → lv_has la 4 ls →
    W (gp G) (gl G) (ge G) room_1 (gs G) (gm G) #[Value.ref b] (gb G) (gt G) (gc G) H locs 600000 7302250 (lw_Z (gb G) #[Value.ref b] (gs G)) (F0 (gm G) pc la st)
section LROWS
variable {G : GT} {b L pc : Nat} {xs : Nat → Int32} {ls : List (Nat × Value)} {st stk : List Value} {ws ws2 : va_W}
theorem L_ald {n : Fin 4} {a : Nat} (j : Nat) (C : LC G b L xs) (hd : decode cL_law pc = .ok (.aload_n n, 1)) (hj : ls[j]? = some ((n : Nat), .ref a)) (k : lJ G b (pc + 1) ls (.ref a :: st) ws) : lJ G b pc ls st ws := fun H locs la hP hD hS hl => lv_aload_n C.hx C.hb hd rfl (lv_at hl j hj) (k H locs la hP hD hS hl)
theorem L_ild {n : Fin 4} {x : Int32} (j : Nat) (C : LC G b L xs) (hd : decode cL_law pc = .ok (.iload_n n, 1)) (hj : ls[j]? = some ((n : Nat), .int x)) (k : lJ G b (pc + 1) ls (.int x :: st) ws) : lJ G b pc ls st ws := fun H locs la hP hD hS hl => lv_iload_n C.hx C.hb hd rfl (lv_at hl j hj) (k H locs la hP hD hS hl)
theorem L_icn {n : Int} {v : Int32} (C : LC G b L xs) (hd : decode cL_law pc = .ok (.iconst n, 1)) (hv : Int32.ofInt n = v) (k : lJ G b (pc + 1) ls (.int v :: st) ws) : lJ G b pc ls st ws := fun H locs la hP hD hS hl => lv_iconst C.hx C.hb hd hv (k H locs la hP hD hS hl)
theorem L_bip {n : Int} {v : Int32} (C : LC G b L xs) (hd : decode cL_law pc = .ok (.bipush n, 2)) (hv : (Int8.ofInt n).toInt32 = v) (k : lJ G b (pc + 2) ls (.int v :: st) ws) : lJ G b pc ls st ws := fun H locs la hP hD hS hl => lv_bipush C.hx C.hb hd hv (k H locs la hP hD hS hl)
theorem L_add {x y : Int32} (C : LC G b L xs) (hd : decode cL_law pc = .ok (.iadd, 1)) (k : lJ G b (pc + 1) ls (.int (x + y) :: st) ws) : lJ G b pc ls (.int y :: .int x :: st) ws := fun H locs la hP hD hS hl => lv_iadd C.hx C.hb hd (k H locs la hP hD hS hl)
theorem L_sub {x y : Int32} (C : LC G b L xs) (hd : decode cL_law pc = .ok (.isub, 1)) (k : lJ G b (pc + 1) ls (.int (x - y) :: st) ws) : lJ G b pc ls (.int y :: .int x :: st) ws := fun H locs la hP hD hS hl => lv_isub C.hx C.hb hd (k H locs la hP hD hS hl)
theorem L_and {x y : Int32} (C : LC G b L xs) (hd : decode cL_law pc = .ok (.iand, 1)) (k : lJ G b (pc + 1) ls (.int (x &&& y) :: st) ws) : lJ G b pc ls (.int y :: .int x :: st) ws := fun H locs la hP hD hS hl => lv_iand C.hx C.hb hd (k H locs la hP hD hS hl)
theorem L_sld {j : Nat} (C : LC G b L xs) (hj : j < L) (hd : decode cL_law pc = .ok (.iaload, 1)) (k : lJ G b (pc + 1) ls (.int (xs j) :: st) ws) : lJ G b pc ls (.int (nI j) :: .ref b :: st) ws := fun H locs la hP hD hS hl => by
  have h31 : j < 2 ^ 31 := by have := C.hL; omega
  refine va_sld C.hx C.hb C.X C.bl C.bA hS (vp_in_nI hj (by have := C.hL; omega)) hd ?_
  rw [show (nI j).toNatClampNeg = j from nI_clamp h31]
  exact k H locs la hP hD hS hl
theorem L_slen (C : LC G b L xs) (hd : decode cL_law pc = .ok (.arraylength, 1)) (k : lJ G b (pc + 1) ls (.int (nI L) :: st) ws) : lJ G b pc ls (.ref b :: st) ws := fun H locs la hP hD hS hl => va_slen C.hx C.hb C.X C.bl C.bA hS hd (k H locs la hP hD hS hl)
theorem L_gt {x y : Int32} {off : Int} {tgt : Nat} (C : LC G b L xs) (hd : decode cL_law pc = .ok (.if_icmp .gt off, 3)) (ht : (pc : Int) + off = (tgt : Int)) (kt : y < x → lJ G b tgt ls st ws) (kf : ¬ y < x → lJ G b (pc + 3) ls st ws) : lJ G b pc ls (.int y :: .int x :: st) ws := fun H locs la hP hD hS hl => lv_icmp_gt C.hx C.hb hd ht (fun q => kt q H locs la hP hD hS hl) (fun q => kf q H locs la hP hD hS hl)
theorem L_same {v : Int32} {off : Int} {tgt : Nat} (C : LC G b L xs) (hd : decode cL_law pc = .ok (.if_icmp .eq off, 3)) (ht : (pc : Int) + off = (tgt : Int)) (kt : lJ G b tgt ls st ws) : lJ G b pc ls (.int v :: .int v :: st) ws := fun H locs la hP hD hS hl => lv_icmp_eq C.hx C.hb hd ht (fun _ => kt H locs la hP hD hS hl) (fun q => absurd rfl q)
theorem L_goto {off : Int} {tgt : Nat} (C : LC G b L xs) (hd : decode cL_law pc = .ok (.goto off, 3)) (ht : (pc : Int) + off = (tgt : Int)) (k : lJ G b tgt ls st ws) : lJ G b pc ls st ws := fun H locs la hP hD hS hl => lv_goto C.hx C.hb hd ht (k H locs la hP hD hS hl)
theorem L_i2l {x : Int32} (C : LC G b L xs) (hd : decode cL_law pc = .ok (.i2l, 1)) (k : lJ G b (pc + 1) ls (.long x.toInt64 :: st) ws) : lJ G b pc ls (.int x :: st) ws := fun H locs la hP hD hS hl => lv_i2l C.hx C.hb hd rfl (k H locs la hP hD hS hl)
theorem L_shl {x : Int64} {y : Int32} (C : LC G b L xs) (hd : decode cL_law pc = .ok (.lshl, 1)) (k : lJ G b (pc + 1) ls (.long (zlshl x y) :: st) ws) : lJ G b pc ls (.int y :: .long x :: st) ws := fun H locs la hP hD hS hl => lv_lshl C.hx C.hb hd rfl (k H locs la hP hD hS hl)
theorem L_land {x y : Int64} (C : LC G b L xs) (hd : decode cL_law pc = .ok (.land, 1)) (k : lJ G b (pc + 1) ls (.long (x &&& y) :: st) ws) : lJ G b pc ls (.long y :: .long x :: st) ws := fun H locs la hP hD hS hl => lv_land C.hx C.hb hd (k H locs la hP hD hS hl)
theorem L_lor {x y : Int64} (C : LC G b L xs) (hd : decode cL_law pc = .ok (.lor, 1)) (k : lJ G b (pc + 1) ls (.long (x ||| y) :: st) ws) : lJ G b pc ls (.long y :: .long x :: st) ws := fun H locs la hP hD hS hl => lv_lor C.hx C.hb hd (k H locs la hP hD hS hl)
theorem L_ldc2 {index : Nat} {v : Int64} (C : LC G b L xs) (hd : decode cL_law pc = .ok (.ldc2_w index, 3)) (hw : Cond.constantLong RL index v ∈ lw_tg) (k : lJ G b (pc + 3) ls (.long v :: st) ws) : lJ G b pc ls st ws := fun H locs la hP hD hS hl => lv_ldc2 C.hx C.hb C.own (C.wd _ hw) hd (k H locs la hP hD hS hl)
theorem L_tin {dflt lo hi : Int} {offs : Array Int} {len : Nat} {x x0 : Int32} {off : Int} {tgt : Nat} (C : LC G b L xs) (hd : decode cL_law pc = .ok (.tableswitch dflt lo hi offs, len)) (hx : x = x0) (h1 : ¬ x0.toInt < lo) (h2 : ¬ hi < x0.toInt) (ho : offs[(x0.toInt - lo).toNat]? = some off) (ht : (pc : Int) + off = (tgt : Int)) (k : lJ G b tgt ls st ws) : lJ G b pc ls (.int x :: st) ws := by
  subst hx
  exact fun H locs la hP hD hS hl => lv_tableIn C.hx C.hb hd h1 h2 ho ht (k H locs la hP hD hS hl)
theorem L_tout {dflt lo hi : Int} {offs : Array Int} {len : Nat} {x : Int32} {tgt : Nat} (C : LC G b L xs) (hd : decode cL_law pc = .ok (.tableswitch dflt lo hi offs, len)) (h : x.toInt < lo ∨ hi < x.toInt) (ht : (pc : Int) + dflt = (tgt : Int)) (k : lJ G b tgt ls st ws) : lJ G b pc ls (.int x :: st) ws := fun H locs la hP hD hS hl => lv_tableOut C.hx C.hb hd h ht (k H locs la hP hD hS hl)
theorem L_inc {i : Nat} {n : Int} {x v : Int32} {ls' ls2 : List (Nat × Value)} (j : Nat) (ks : List Nat) (C : LC G b L xs) (hd : decode cL_law pc = .ok (.iinc i n, 3)) (hj : ls[j]? = some (i, .int x)) (hv : x + Int32.ofInt n = v) (hn : i < 4) (hl' : (i, Value.int v) :: ls.filter (fun q => !(q.1 == i) && !(q.1 + 1 == i && q.2.category == 2)) = ls') (hk : lv_pick ls' ks = ls2) (k : lJ G b (pc + 3) ls2 st ws) : lJ G b pc ls st ws := fun H locs _ hP hD hS hl => lv_iinc C.hx C.hb hd hl hj hv hn hl' (fun la' h' => k H locs la' hP hD hS (lv_sub h' ks hk))
/-- the law's end -/
theorem L_end (C : LC G b L xs) (h1 : decode cL_law pc = .ok (.iconst 1, 1)) (h2 : decode cL_law (pc + 1) = .ok (.ireturn, 1)) : lJ G b pc ls [] ws := fun H locs la hP hD hS hl =>
  lv_iconst (v := 1) C.hx C.hb h1 (by decide) (va_forget (fun q hq => C.fr _ (hS.2.2 q hq)) (lw_ret C.hx C.hb C.hr C.lk h2))
/-- a word of the script -/
theorem L_arg {i a1 a2 j : Nat} {n : Int} (C : LC G b L xs) (d0 : decode cL_law pc = .ok (.aload_n 0, 1)) (d1 : decode cL_law (pc + 1) = .ok (.iload_n 3, 1)) (d2 : decode cL_law (pc + 2) = .ok (.iconst n, 1)) (d3 : decode cL_law (pc + 3) = .ok (.iadd, 1)) (d4 : decode cL_law (pc + 4) = .ok (.iaload, 1)) (hn : Int32.ofInt n = nI j) (hj : i + j < L) (k : lJ G b (pc + 5) [(3, .int (nI i)), (2, .ref a2), (1, .ref a1), (0, .ref b)] (.int (xs (i + j)) :: st) ws) : lJ G b pc [(3, .int (nI i)), (2, .ref a2), (1, .ref a1), (0, .ref b)] st ws := by
  refine L_ald 3 C d0 rfl ?_
  refine L_ild 0 C d1 rfl ?_
  refine L_icn C d2 hn ?_
  refine L_add C d3 ?_
  rw [nI_add]
  exact L_sld C hj d4 k
theorem lCB {index n maxL d2 : Nat} {y : MethodName} {bytes : ByteArray} {ret2 : Option FieldType} {s : State} {args : Array Value} (hts : ∀ w ∈ lw_tg, w.before args s = true) (w : zW RL index y bytes maxL ret2 n) (hlt : d2 ≤ 8) : CallB room_1 s args RL index y bytes maxL ret2 (.code y bytes maxL ret2 :: lw_tg) (Rmd d2) 0 0 n :=
  callB_of n hts (zGood w.1.2.2) rfl rfl rfl (hts _ w.1.2.1) (hts _ w.1.1) w.2.1 (by have := w.2.2; simp only [Rmd, room_1]; omega)
theorem L_call {index n maxL d2 a ci N : Nat} {y : MethodName} {bytes : ByteArray} {ret2 : Option FieldType} {As : List Value} {wc w1 : va_W} {rv : Int32} {fs : List Value} {T : u_T} (is : List Nat) (C : LC G b L xs) (hd : decode cL_law pc = .ok (.invokevirtual index, 3)) (w : zWI RL index y bytes maxL ret2 n) (hM : zM (gl G) (gD G) (gk G) y bytes maxL ret2 d2 (.ref a :: As) wc rv w1) (hlt : d2 ≤ 8) (hC : is.map (fun i => ws[i]?) = wc.map some) (hnd : va_nd is = true) (hf : w1.map Prod.fst = wc.map Prod.fst) (hr0 : wc[0]? = some (a, .inr (ci, fs))) (hr1 : vwCl[ci]? = some (y.cls, T, N)) (hn : As.length = n) (hst : stk = As.reverse ++ .ref a :: st) (hcat : (st.map fun v => v.category).sum ≤ 8) (hws : zput ws is w1 = ws2)
    (kk : lJ G b (pc + 3) ls (.int rv :: st) ws2) : lJ G b pc ls stk ws := by
  intro H locs la hP hD hS hl
  subst hst
  subst hws
  have hPc := hP.sub is (zfm hC)
  have hDc := hD.sub is hnd hC
  have hFc := va_free hD hS C.A is hC
  refine va_calli (va_runV (As := As) (rest := st) ⟨C.hx, C.hb, C.hml, C.own, C.wd⟩ (hM H.size) ⟨lCB C.wd w.1 hlt, C.wd _ w.2.1, C.wd _ w.2.2⟩ ⟨zB_blind, va_recv C.K hPc hr1 hr0, fun U hU hW => ⟨rfl, by rw [hU], by rw [hU]; exact hPc, va_K.moved hW.alike C.K, hDc.weaken (fun _ _ _ _ => trivial), by rw [hU]; exact ((C.St.kept (fun q h1 h2 => hS.2.1 q h1 h2)).narrow hFc).moved hW.alike⟩⟩ rfl hn hl.1 rfl (lv_room hcat) hd ⟨Nat.le_refl 600000, Nat.le_refl 7302250⟩) hS (fun q _ h => hFc q h) hFc (fun r u t H1 locs1 ht hvm hw hB hz1 hk1 hS1 => ?_)
  rw [ht] at hB
  obtain ⟨hP1, hD1⟩ := zput_P hP hD hC hf hk1 hB
  cases hw
  exact kk H1 locs1 la hP1 hD1 hS1 hl
end LROWS
/-- both worlds -/
def BW (cs : ClassId × ClassId × ClassId) (ad am : Nat → Nat) (nr nf tr tf co pf : zA) (hi sl : Nat → zA) (sv ff s sv2 tx cu ho mf : zA) : va_W := FW cs ad nr nf tr tf co pf hi sl sv ff ++ MW cs am s sv2 tx cu ho mf
theorem BW_F (cs : ClassId × ClassId × ClassId) (ad am : Nat → Nat) (nr nf tr tf co pf : zA) (hi sl : Nat → zA) (sv ff s sv2 tx cu ho mf : zA) : (List.range 21).map (fun i => (BW cs ad am nr nf tr tf co pf hi sl sv ff s sv2 tx cu ho mf)[i]?) = (FW cs ad nr nf tr tf co pf hi sl sv ff).map some := rfl
theorem BW_M (cs : ClassId × ClassId × ClassId) (ad am : Nat → Nat) (nr nf tr tf co pf : zA) (hi sl : Nat → zA) (sv ff s sv2 tx cu ho mf : zA) : [21, 22, 23, 24, 25, 26].map (fun i => (BW cs ad am nr nf tr tf co pf hi sl sv ff s sv2 tx cu ho mf)[i]?) = (MW cs am s sv2 tx cu ho mf).map some := rfl
theorem zput_app {t : va_W} : ∀ (is : List Nat) (cs w0 : va_W), (∀ i ∈ is, i < w0.length) → zput (w0 ++ t) is cs = zput w0 is cs ++ t
  | [], _, _, _ => by simp [zput]
  | _ :: _, [], _, _ => by simp [zput]
  | i :: is, c :: cs, w0, h => by
    show zput ((w0 ++ t).set i c) is cs = _
    rw [List.set_append_left _ _ (h i List.mem_cons_self)]
    exact zput_app is cs (w0.set i c) (fun j hj => by rw [List.length_set]; exact h j (List.mem_cons_of_mem _ hj))
theorem BW_F2 (cs : ClassId × ClassId × ClassId) (ad am : Nat → Nat) (nr nf tr tf co pf : zA) (hi sl : Nat → zA) (sv ff : zA) (nr' nf' tr' tf' co' pf' : zA) (hi' sl' : Nat → zA) (sv' ff' s sv2 tx cu ho mf : zA) : zput (BW cs ad am nr nf tr tf co pf hi sl sv ff s sv2 tx cu ho mf) (List.range 21) (FW cs ad nr' nf' tr' tf' co' pf' hi' sl' sv' ff') = BW cs ad am nr' nf' tr' tf' co' pf' hi' sl' sv' ff' s sv2 tx cu ho mf := by
  have h1 := zput_all (ws := FW cs ad nr nf tr tf co pf hi sl sv ff) (w1 := FW cs ad nr' nf' tr' tf' co' pf' hi' sl' sv' ff') rfl
  unfold BW
  rw [zput_app (List.range 21) _ (FW cs ad nr nf tr tf co pf hi sl sv ff) (fun i hi => (List.mem_range.mp hi : i < 21))]
  exact congrArg (fun w => w ++ MW cs am s sv2 tx cu ho mf) h1
theorem BW_M2 (cs : ClassId × ClassId × ClassId) (ad am : Nat → Nat) (nr nf tr tf co pf : zA) (hi sl : Nat → zA) (sv ff s sv2 tx cu ho mf s' sv2' tx' cu' ho' mf' : zA) : zput (BW cs ad am nr nf tr tf co pf hi sl sv ff s sv2 tx cu ho mf) [21, 22, 23, 24, 25, 26] (MW cs am s' sv2' tx' cu' ho' mf') = BW cs ad am nr nf tr tf co pf hi sl sv ff s' sv2' tx' cu' ho' mf' := rfl
theorem L_callF {G : GT} {b L pc : Nat} {xs : Nat → Int32} {ls : List (Nat × Value)} {st stk : List Value} {ad am : Nat → Nat} {nr nf tr tf co pf : zA} {hi sl : Nat → zA} {sv ff : zA} {nr' nf' tr' tf' co' pf' : zA} {hi' sl' : Nat → zA} {sv' ff' s sv2 tx cu ho mf : zA} {index n maxL d2 : Nat} {y : MethodName} {bytes : ByteArray} {ret2 : Option FieldType} {As : List Value} {rv : Int32} (C : LC G b L xs) (hd : decode cL_law pc = .ok (.invokevirtual index, 3)) (w : zWI RL index y bytes maxL ret2 n) (hy : y.cls = RX2) (hM : zM (gl G) (gD G) (gk G) y bytes maxL ret2 d2 (.ref (ad 0) :: As) (FW (gk G) ad nr nf tr tf co pf hi sl sv ff) rv (FW (gk G) ad nr' nf' tr' tf' co' pf' hi' sl' sv' ff')) (hlt : d2 ≤ 8) (hn : As.length = n) (hst : stk = As.reverse ++ .ref (ad 0) :: st) (hcat : (st.map fun v => v.category).sum ≤ 8)
    (kk : lJ G b (pc + 3) ls (.int rv :: st) (BW (gk G) ad am nr' nf' tr' tf' co' pf' hi' sl' sv' ff' s sv2 tx cu ho mf)) : lJ G b pc ls stk (BW (gk G) ad am nr nf tr tf co pf hi sl sv ff s sv2 tx cu ho mf) :=
  L_call (ci := 2) (N := 8) (T := TX2) (List.range 21) C hd w hM hlt (BW_F _ _ _ _ _ _ _ _ _ _ _ _ _ _ _ _ _ _ _) (znd_range 21) (FWf _ _ _ _ _ _ _ _ _ _ _ _ _ _ _ _ _ _ _ _ _ _) rfl (by rw [hy]; rfl) hn hst hcat (BW_F2 _ _ _ _ _ _ _ _ _ _ _ _ _ _ _ _ _ _ _ _ _ _ _ _ _ _ _ _ _) kk
theorem L_callM {G : GT} {b L pc : Nat} {xs : Nat → Int32} {ls : List (Nat × Value)} {st stk : List Value} {ad am : Nat → Nat} {nr nf tr tf co pf : zA} {hi sl : Nat → zA} {sv ff : zA} {s sv2 tx cu ho mf s' sv2' tx' cu' ho' mf' : zA} {index n maxL d2 : Nat} {y : MethodName} {bytes : ByteArray} {ret2 : Option FieldType} {As : List Value} {rv : Int32} (C : LC G b L xs) (hd : decode cL_law pc = .ok (.invokevirtual index, 3)) (w : zWI RL index y bytes maxL ret2 n) (hy : y.cls = RX3) (hM : zM (gl G) (gD G) (gk G) y bytes maxL ret2 d2 (.ref (am 0) :: As) (MW (gk G) am s sv2 tx cu ho mf) rv (MW (gk G) am s' sv2' tx' cu' ho' mf')) (hlt : d2 ≤ 8) (hn : As.length = n) (hst : stk = As.reverse ++ .ref (am 0) :: st) (hcat : (st.map fun v => v.category).sum ≤ 8)
    (kk : lJ G b (pc + 3) ls (.int rv :: st) (BW (gk G) ad am nr nf tr tf co pf hi sl sv ff s' sv2' tx' cu' ho' mf')) : lJ G b pc ls stk (BW (gk G) ad am nr nf tr tf co pf hi sl sv ff s sv2 tx cu ho mf) :=
  L_call (ci := 3) (N := 14) (T := TX3) [21, 22, 23, 24, 25, 26] C hd w hM hlt (BW_M _ _ _ _ _ _ _ _ _ _ _ _ _ _ _ _ _ _ _) (by decide) (MWf _ _ _ _ _ _ _ _ _ _ _ _ _ _) rfl (by rw [hy]; rfl) hn hst hcat (BW_M2 _ _ _ _ _ _ _ _ _ _ _ _ _ _ _ _ _ _ _ _ _ _ _ _ _) kk
/-- at the head of the loop, or behind a case -/
def HD (G : GT) (b i pc : Nat) (ad am : Nat → Nat) : Prop := ∀ (nr nf tr tf co pf : zA) (hi sl : Nat → zA) (sv ff s sv2 tx cu ho mf : zA), REL nr co pf hi sl sv ff s sv2 tx mf → lJ G b pc [(3, .int (nI i)), (2, .ref (am 0)), (1, .ref (ad 0)), (0, .ref b)] [] (BW (gk G) ad am nr nf tr tf co pf hi sl sv ff s sv2 tx cu ho mf)
theorem case_set {G : GT} {b L i : Nat} {xs : Nat → Int32} {ad am : Nat → Nat} (C : LC G b L xs) (hi4 : i + 4 ≤ L) (k : HD G b i 732 ad am) : HD G b i 136 ad am := by
  intro nr nf tr tf co pf hi sl sv ff s sv2 tx cu ho mf h
  obtain ⟨v, nr', hi', ff', s', mf', e1, e2, h'⟩ := sim_set h (xs (i + 1)) (xs (i + 2))
  refine L_ald 2 C dL_law_136 rfl ?_
  refine L_arg (j := 1) C dL_law_137 dL_law_138 dL_law_139 dL_law_140 dL_law_141 rfl (by omega) ?_
  refine L_arg (j := 2) C dL_law_142 dL_law_143 dL_law_144 dL_law_145 dL_law_146 rfl (by omega) ?_
  refine L_callF (y := yX2_set) (n := 2) C dL_law_147 ⟨⟨⟨tw_57, tw_2, tw_60⟩, by decide +kernel, by decide⟩, tw_58, tw_59⟩ rfl (c_X2_set ad (xs (i + 1)) (xs (i + 2)) nr nf tr tf co pf hi sl sv ff e1) (by decide) rfl rfl (Nat.le_of_ble_eq_true rfl) ?_
  refine L_ald 1 C dL_law_150 rfl ?_
  refine L_arg (j := 1) C dL_law_151 dL_law_152 dL_law_153 dL_law_154 dL_law_155 rfl (by omega) ?_
  refine L_arg (j := 2) C dL_law_156 dL_law_157 dL_law_158 dL_law_159 dL_law_160 rfl (by omega) ?_
  refine L_callM (y := yX3_set) (n := 2) C dL_law_161 ⟨⟨⟨tw_87, tw_5, tw_90⟩, by decide +kernel, by decide⟩, tw_88, tw_89⟩ rfl (c_X3_set am (xs (i + 1)) (xs (i + 2)) s sv2 tx cu ho mf e2) (by decide) rfl rfl (Nat.le_of_ble_eq_true rfl) ?_
  refine L_same (tgt := 732) C dL_law_164 (by decide) ?_
  exact k _ _ _ _ _ _ _ _ _ _ _ _ _ _ _ _ h'
theorem case_board {G : GT} {b L i : Nat} {xs : Nat → Int32} {ad am : Nat → Nat} (C : LC G b L xs) (hi4 : i + 4 ≤ L) (k : HD G b i 732 ad am) : HD G b i 169 ad am := by
  intro nr nf tr tf co pf hi sl sv ff s sv2 tx cu ho mf h
  obtain ⟨v, nr', hi', ff', s', mf', e1, e2, h'⟩ := sim_board h (xs (i + 1)) (xs (i + 2)) (xs (i + 3))
  refine L_ald 2 C dL_law_169 rfl ?_
  refine L_arg (j := 1) C dL_law_170 dL_law_171 dL_law_172 dL_law_173 dL_law_174 rfl (by omega) ?_
  refine L_arg (j := 2) C dL_law_175 dL_law_176 dL_law_177 dL_law_178 dL_law_179 rfl (by omega) ?_
  refine L_arg (j := 3) C dL_law_180 dL_law_181 dL_law_182 dL_law_183 dL_law_184 rfl (by omega) ?_
  refine L_callF (y := yX2_board) (n := 3) C dL_law_185 ⟨⟨⟨tw_108, tw_2, tw_111⟩, by decide +kernel, by decide⟩, tw_109, tw_110⟩ rfl (c_X2_board ad (xs (i + 1)) (xs (i + 2)) (xs (i + 3)) nr nf tr tf co pf hi sl sv ff e1) (by decide) rfl rfl (Nat.le_of_ble_eq_true rfl) ?_
  refine L_ald 1 C dL_law_188 rfl ?_
  refine L_arg (j := 1) C dL_law_189 dL_law_190 dL_law_191 dL_law_192 dL_law_193 rfl (by omega) ?_
  refine L_arg (j := 2) C dL_law_194 dL_law_195 dL_law_196 dL_law_197 dL_law_198 rfl (by omega) ?_
  refine L_arg (j := 3) C dL_law_199 dL_law_200 dL_law_201 dL_law_202 dL_law_203 rfl (by omega) ?_
  refine L_callM (y := yX3_board) (n := 3) C dL_law_204 ⟨⟨⟨tw_127, tw_5, tw_130⟩, by decide +kernel, by decide⟩, tw_128, tw_129⟩ rfl (c_X3_board am (xs (i + 1)) (xs (i + 2)) (xs (i + 3)) s sv2 tx cu ho mf e2) (by decide) rfl rfl (Nat.le_of_ble_eq_true rfl) ?_
  refine L_same (tgt := 732) C dL_law_207 (by decide) ?_
  exact k _ _ _ _ _ _ _ _ _ _ _ _ _ _ _ _ h'
theorem case_load {G : GT} {b L i : Nat} {xs : Nat → Int32} {ad am : Nat → Nat} (C : LC G b L xs) (hi4 : i + 4 ≤ L) (k : HD G b i 732 ad am) : HD G b i 212 ad am := by
  intro nr nf tr tf co pf hi sl sv ff s sv2 tx cu ho mf h
  obtain ⟨v, nr', hi', ff', s', mf', e1, e2, h'⟩ := sim_load h (xs (i + 1)) (xs (i + 2))
  refine L_ald 2 C dL_law_212 rfl ?_
  refine L_arg (j := 1) C dL_law_213 dL_law_214 dL_law_215 dL_law_216 dL_law_217 rfl (by omega) ?_
  refine L_arg (j := 2) C dL_law_218 dL_law_219 dL_law_220 dL_law_221 dL_law_222 rfl (by omega) ?_
  refine L_callF (y := yX2_load) (n := 2) C dL_law_223 ⟨⟨⟨tw_155, tw_2, tw_158⟩, by decide +kernel, by decide⟩, tw_156, tw_157⟩ rfl (c_X2_load ad (xs (i + 1)) (xs (i + 2)) nr nf tr tf co pf hi sl sv ff e1) (by decide) rfl rfl (Nat.le_of_ble_eq_true rfl) ?_
  refine L_ald 1 C dL_law_226 rfl ?_
  refine L_arg (j := 1) C dL_law_227 dL_law_228 dL_law_229 dL_law_230 dL_law_231 rfl (by omega) ?_
  refine L_arg (j := 2) C dL_law_232 dL_law_233 dL_law_234 dL_law_235 dL_law_236 rfl (by omega) ?_
  refine L_callM (y := yX3_load) (n := 2) C dL_law_237 ⟨⟨⟨tw_163, tw_5, tw_166⟩, by decide +kernel, by decide⟩, tw_164, tw_165⟩ rfl (c_X3_load am (xs (i + 1)) (xs (i + 2)) s sv2 tx cu ho mf e2) (by decide) rfl rfl (Nat.le_of_ble_eq_true rfl) ?_
  refine L_same (tgt := 732) C dL_law_240 (by decide) ?_
  exact k _ _ _ _ _ _ _ _ _ _ _ _ _ _ _ _ h'
theorem case_turn {G : GT} {b L i : Nat} {xs : Nat → Int32} {ad am : Nat → Nat} (C : LC G b L xs) (hi4 : i + 4 ≤ L) (k : HD G b i 732 ad am) : HD G b i 245 ad am := by
  intro nr nf tr tf co pf hi sl sv ff s sv2 tx cu ho mf h
  obtain ⟨v, nr', hi', ff', s', mf', e1, e2, h'⟩ := sim_turn h (xs (i + 1))
  refine L_ald 2 C dL_law_245 rfl ?_
  refine L_arg (j := 1) C dL_law_246 dL_law_247 dL_law_248 dL_law_249 dL_law_250 rfl (by omega) ?_
  refine L_callF (y := yX2_turn) (n := 1) C dL_law_251 ⟨⟨⟨tw_179, tw_2, tw_182⟩, by decide +kernel, by decide⟩, tw_180, tw_181⟩ rfl (c_X2_turn ad (xs (i + 1)) nr nf tr tf co pf hi sl sv ff e1) (by decide) rfl rfl (Nat.le_of_ble_eq_true rfl) ?_
  refine L_ald 1 C dL_law_254 rfl ?_
  refine L_arg (j := 1) C dL_law_255 dL_law_256 dL_law_257 dL_law_258 dL_law_259 rfl (by omega) ?_
  refine L_callM (y := yX3_turn) (n := 1) C dL_law_260 ⟨⟨⟨tw_191, tw_5, tw_194⟩, by decide +kernel, by decide⟩, tw_192, tw_193⟩ rfl (c_X3_turn am (xs (i + 1)) s sv2 tx cu ho mf e2) (by decide) rfl rfl (Nat.le_of_ble_eq_true rfl) ?_
  refine L_same (tgt := 732) C dL_law_263 (by decide) ?_
  exact k _ _ _ _ _ _ _ _ _ _ _ _ _ _ _ _ h'
theorem case_fuse {G : GT} {b L i : Nat} {xs : Nat → Int32} {ad am : Nat → Nat} (C : LC G b L xs) (hi4 : i + 4 ≤ L) (k : HD G b i 732 ad am) : HD G b i 268 ad am := by
  intro nr nf tr tf co pf hi sl sv ff s sv2 tx cu ho mf h
  obtain ⟨v, nr', hi', ff', s', mf', e1, e2, h'⟩ := sim_fuse h (xs (i + 1)) (xs (i + 2)) (xs (i + 3))
  refine L_ald 2 C dL_law_268 rfl ?_
  refine L_arg (j := 1) C dL_law_269 dL_law_270 dL_law_271 dL_law_272 dL_law_273 rfl (by omega) ?_
  refine L_arg (j := 2) C dL_law_274 dL_law_275 dL_law_276 dL_law_277 dL_law_278 rfl (by omega) ?_
  refine L_arg (j := 3) C dL_law_279 dL_law_280 dL_law_281 dL_law_282 dL_law_283 rfl (by omega) ?_
  refine L_callF (y := yX2_fuse) (n := 3) C dL_law_284 ⟨⟨⟨tw_207, tw_2, tw_210⟩, by decide +kernel, by decide⟩, tw_208, tw_209⟩ rfl (c_X2_fuse ad (xs (i + 1)) (xs (i + 2)) (xs (i + 3)) nr nf tr tf co pf hi sl sv ff e1) (by decide) rfl rfl (Nat.le_of_ble_eq_true rfl) ?_
  refine L_ald 1 C dL_law_287 rfl ?_
  refine L_arg (j := 1) C dL_law_288 dL_law_289 dL_law_290 dL_law_291 dL_law_292 rfl (by omega) ?_
  refine L_arg (j := 2) C dL_law_293 dL_law_294 dL_law_295 dL_law_296 dL_law_297 rfl (by omega) ?_
  refine L_arg (j := 3) C dL_law_298 dL_law_299 dL_law_300 dL_law_301 dL_law_302 rfl (by omega) ?_
  refine L_callM (y := yX3_fuse) (n := 3) C dL_law_303 ⟨⟨⟨tw_215, tw_5, tw_218⟩, by decide +kernel, by decide⟩, tw_216, tw_217⟩ rfl (c_X3_fuse am (xs (i + 1)) (xs (i + 2)) (xs (i + 3)) s sv2 tx cu ho mf e2) (by decide) rfl rfl (Nat.le_of_ble_eq_true rfl) ?_
  refine L_same (tgt := 732) C dL_law_306 (by decide) ?_
  exact k _ _ _ _ _ _ _ _ _ _ _ _ _ _ _ _ h'
theorem case_pass {G : GT} {b L i : Nat} {xs : Nat → Int32} {ad am : Nat → Nat} (C : LC G b L xs) (hi4 : i + 4 ≤ L) (k : HD G b i 732 ad am) : HD G b i 311 ad am := by
  intro nr nf tr tf co pf hi sl sv ff s sv2 tx cu ho mf h
  obtain ⟨v, nr', nf', hi', ff', s', cu', ho', mf', e1, e2, h'⟩ := sim_pass h (xs (i + 1)) nf cu ho
  refine L_ald 2 C dL_law_311 rfl ?_
  refine L_arg (j := 1) C dL_law_312 dL_law_313 dL_law_314 dL_law_315 dL_law_316 rfl (by omega) ?_
  refine L_callF (y := yX2_pass) (n := 1) C dL_law_317 ⟨⟨⟨tw_227, tw_2, tw_230⟩, by decide +kernel, by decide⟩, tw_228, tw_229⟩ rfl (c_X2_pass ad (xs (i + 1)) nr nf tr tf co pf hi sl sv ff e1) (by decide) rfl rfl (Nat.le_of_ble_eq_true rfl) ?_
  refine L_ald 1 C dL_law_320 rfl ?_
  refine L_arg (j := 1) C dL_law_321 dL_law_322 dL_law_323 dL_law_324 dL_law_325 rfl (by omega) ?_
  refine L_callM (y := yX3_pass) (n := 1) C dL_law_326 ⟨⟨⟨tw_306, tw_5, tw_309⟩, by decide +kernel, by decide⟩, tw_307, tw_308⟩ rfl (c_X3_pass am (xs (i + 1)) s sv2 tx cu ho mf e2) (by decide) rfl rfl (Nat.le_of_ble_eq_true rfl) ?_
  refine L_same (tgt := 732) C dL_law_329 (by decide) ?_
  exact k _ _ _ _ _ _ _ _ _ _ _ _ _ _ _ _ h'
theorem case_of {G : GT} {b L i : Nat} {xs : Nat → Int32} {ad am : Nat → Nat} (C : LC G b L xs) (hi4 : i + 4 ≤ L) (k : HD G b i 732 ad am) : HD G b i 334 ad am := by
  intro nr nf tr tf co pf hi sl sv ff s sv2 tx cu ho mf h
  obtain ⟨v, nf', e1, e2⟩ := sim_of h.1 h.2.2.1 (xs (i + 1)) (xs (i + 2)) nf
  refine L_ald 2 C dL_law_334 rfl ?_
  refine L_arg (j := 1) C dL_law_335 dL_law_336 dL_law_337 dL_law_338 dL_law_339 rfl (by omega) ?_
  refine L_arg (j := 2) C dL_law_340 dL_law_341 dL_law_342 dL_law_343 dL_law_344 rfl (by omega) ?_
  refine L_callF (y := yX2_of) (n := 2) C dL_law_345 ⟨⟨⟨tw_363, tw_2, tw_366⟩, by decide +kernel, by decide⟩, tw_364, tw_365⟩ rfl (c_X2_of ad (xs (i + 1)) (xs (i + 2)) nr nf tr tf co pf hi sl sv ff e1) (by decide) rfl rfl (Nat.le_of_ble_eq_true rfl) ?_
  refine L_ald 1 C dL_law_348 rfl ?_
  refine L_arg (j := 1) C dL_law_349 dL_law_350 dL_law_351 dL_law_352 dL_law_353 rfl (by omega) ?_
  refine L_arg (j := 2) C dL_law_354 dL_law_355 dL_law_356 dL_law_357 dL_law_358 rfl (by omega) ?_
  refine L_callM (y := yX3_of) (n := 2) C dL_law_359 ⟨⟨⟨tw_380, tw_5, tw_383⟩, by decide +kernel, by decide⟩, tw_381, tw_382⟩ rfl (c_X3_of am (xs (i + 1)) (xs (i + 2)) s sv2 tx cu ho mf e2) (by decide) rfl rfl (Nat.le_of_ble_eq_true rfl) ?_
  refine L_same (tgt := 732) C dL_law_362 (by decide) ?_
  exact k _ _ _ _ _ _ _ _ _ _ _ _ _ _ _ _ h
theorem case_ofLoad {G : GT} {b L i : Nat} {xs : Nat → Int32} {ad am : Nat → Nat} (C : LC G b L xs) (hi4 : i + 4 ≤ L) (k : HD G b i 732 ad am) : HD G b i 367 ad am := by
  intro nr nf tr tf co pf hi sl sv ff s sv2 tx cu ho mf h
  obtain ⟨v, e1, e2⟩ := sim_ofLoad h.1 (xs (i + 1)) (xs (i + 2))
  refine L_ald 2 C dL_law_367 rfl ?_
  refine L_arg (j := 1) C dL_law_368 dL_law_369 dL_law_370 dL_law_371 dL_law_372 rfl (by omega) ?_
  refine L_arg (j := 2) C dL_law_373 dL_law_374 dL_law_375 dL_law_376 dL_law_377 rfl (by omega) ?_
  refine L_callF (y := yX2_ofLoad) (n := 2) C dL_law_378 ⟨⟨⟨tw_388, tw_2, tw_391⟩, by decide +kernel, by decide⟩, tw_389, tw_390⟩ rfl (c_X2_ofLoad ad (xs (i + 1)) (xs (i + 2)) nr nf tr tf co pf hi sl sv ff e1) (by decide) rfl rfl (Nat.le_of_ble_eq_true rfl) ?_
  refine L_ald 1 C dL_law_381 rfl ?_
  refine L_arg (j := 1) C dL_law_382 dL_law_383 dL_law_384 dL_law_385 dL_law_386 rfl (by omega) ?_
  refine L_arg (j := 2) C dL_law_387 dL_law_388 dL_law_389 dL_law_390 dL_law_391 rfl (by omega) ?_
  refine L_callM (y := yX3_ofLoad) (n := 2) C dL_law_392 ⟨⟨⟨tw_405, tw_5, tw_408⟩, by decide +kernel, by decide⟩, tw_406, tw_407⟩ rfl (c_X3_ofLoad am (xs (i + 1)) (xs (i + 2)) s sv2 tx cu ho mf e2) (by decide) rfl rfl (Nat.le_of_ble_eq_true rfl) ?_
  refine L_same (tgt := 732) C dL_law_395 (by decide) ?_
  exact k _ _ _ _ _ _ _ _ _ _ _ _ _ _ _ _ h
theorem case_fed {G : GT} {b L i : Nat} {xs : Nat → Int32} {ad am : Nat → Nat} (C : LC G b L xs) (hi4 : i + 4 ≤ L) (k : HD G b i 732 ad am) : HD G b i 400 ad am := by
  intro nr nf tr tf co pf hi sl sv ff s sv2 tx cu ho mf h
  obtain ⟨v, e1, e2⟩ := sim_fed h.1 (xs (i + 1))
  refine L_ald 2 C dL_law_400 rfl ?_
  refine L_arg (j := 1) C dL_law_401 dL_law_402 dL_law_403 dL_law_404 dL_law_405 rfl (by omega) ?_
  refine L_callF (y := yX2_fed) (n := 1) C dL_law_406 ⟨⟨⟨tw_413, tw_2, tw_416⟩, by decide +kernel, by decide⟩, tw_414, tw_415⟩ rfl (c_X2_fed ad (xs (i + 1)) nr nf tr tf co pf hi sl sv ff e1) (by decide) rfl rfl (Nat.le_of_ble_eq_true rfl) ?_
  refine L_ald 1 C dL_law_409 rfl ?_
  refine L_arg (j := 1) C dL_law_410 dL_law_411 dL_law_412 dL_law_413 dL_law_414 rfl (by omega) ?_
  refine L_callM (y := yX3_fed) (n := 1) C dL_law_415 ⟨⟨⟨tw_418, tw_5, tw_421⟩, by decide +kernel, by decide⟩, tw_419, tw_420⟩ rfl (c_X3_fed am (xs (i + 1)) s sv2 tx cu ho mf e2) (by decide) rfl rfl (Nat.le_of_ble_eq_true rfl) ?_
  refine L_same (tgt := 732) C dL_law_418 (by decide) ?_
  exact k _ _ _ _ _ _ _ _ _ _ _ _ _ _ _ _ h
theorem case_blown {G : GT} {b L i : Nat} {xs : Nat → Int32} {ad am : Nat → Nat} (C : LC G b L xs) (hi4 : i + 4 ≤ L) (k : HD G b i 732 ad am) : HD G b i 423 ad am := by
  intro nr nf tr tf co pf hi sl sv ff s sv2 tx cu ho mf h
  obtain ⟨v, e1, e2⟩ := sim_blown h.1 (xs (i + 1))
  refine L_ald 2 C dL_law_423 rfl ?_
  refine L_arg (j := 1) C dL_law_424 dL_law_425 dL_law_426 dL_law_427 dL_law_428 rfl (by omega) ?_
  refine L_callF (y := yX2_blown) (n := 1) C dL_law_429 ⟨⟨⟨tw_422, tw_2, tw_425⟩, by decide +kernel, by decide⟩, tw_423, tw_424⟩ rfl (c_X2_blown ad (xs (i + 1)) nr nf tr tf co pf hi sl sv ff e1) (by decide) rfl rfl (Nat.le_of_ble_eq_true rfl) ?_
  refine L_ald 1 C dL_law_432 rfl ?_
  refine L_arg (j := 1) C dL_law_433 dL_law_434 dL_law_435 dL_law_436 dL_law_437 rfl (by omega) ?_
  refine L_callM (y := yX3_blown) (n := 1) C dL_law_438 ⟨⟨⟨tw_430, tw_5, tw_433⟩, by decide +kernel, by decide⟩, tw_431, tw_432⟩ rfl (c_X3_blown am (xs (i + 1)) s sv2 tx cu ho mf e2) (by decide) rfl rfl (Nat.le_of_ble_eq_true rfl) ?_
  refine L_same (tgt := 732) C dL_law_441 (by decide) ?_
  exact k _ _ _ _ _ _ _ _ _ _ _ _ _ _ _ _ h
theorem case_count {G : GT} {b L i : Nat} {xs : Nat → Int32} {ad am : Nat → Nat} (C : LC G b L xs) (hi4 : i + 4 ≤ L) (k : HD G b i 732 ad am) : HD G b i 446 ad am := by
  intro nr nf tr tf co pf hi sl sv ff s sv2 tx cu ho mf h
  obtain ⟨v, nf', e1, e2⟩ := sim_count h (xs (i + 1)) nf
  refine L_ald 2 C dL_law_446 rfl ?_
  refine L_arg (j := 1) C dL_law_447 dL_law_448 dL_law_449 dL_law_450 dL_law_451 rfl (by omega) ?_
  refine L_callF (y := yX2_count) (n := 1) C dL_law_452 ⟨⟨⟨tw_434, tw_2, tw_437⟩, by decide +kernel, by decide⟩, tw_435, tw_436⟩ rfl (c_X2_count ad (xs (i + 1)) nr nf tr tf co pf hi sl sv ff e1) (by decide) rfl rfl (Nat.le_of_ble_eq_true rfl) ?_
  refine L_ald 1 C dL_law_455 rfl ?_
  refine L_arg (j := 1) C dL_law_456 dL_law_457 dL_law_458 dL_law_459 dL_law_460 rfl (by omega) ?_
  refine L_callM (y := yX3_count) (n := 1) C dL_law_461 ⟨⟨⟨tw_450, tw_5, tw_453⟩, by decide +kernel, by decide⟩, tw_451, tw_452⟩ rfl (c_X3_count am (xs (i + 1)) s sv2 tx cu ho mf e2) (by decide) rfl rfl (Nat.le_of_ble_eq_true rfl) ?_
  refine L_same (tgt := 732) C dL_law_464 (by decide) ?_
  exact k _ _ _ _ _ _ _ _ _ _ _ _ _ _ _ _ h
theorem case_next {G : GT} {b L i : Nat} {xs : Nat → Int32} {ad am : Nat → Nat} (C : LC G b L xs) (hi4 : i + 4 ≤ L) (k : HD G b i 732 ad am) : HD G b i 469 ad am := by
  intro nr nf tr tf co pf hi sl sv ff s sv2 tx cu ho mf h
  obtain ⟨v, tr', tf', s', cu', ho', e1, e2, h'⟩ := sim_next h (xs (i + 1)) tr tf cu ho
  refine L_ald 2 C dL_law_469 rfl ?_
  refine L_arg (j := 1) C dL_law_470 dL_law_471 dL_law_472 dL_law_473 dL_law_474 rfl (by omega) ?_
  refine L_callF (y := yX2_next) (n := 1) C dL_law_475 ⟨⟨⟨tw_463, tw_2, tw_466⟩, by decide +kernel, by decide⟩, tw_464, tw_465⟩ rfl (c_X2_next ad (xs (i + 1)) nr nf tr tf co pf hi sl sv ff e1) (by decide) rfl rfl (Nat.le_of_ble_eq_true rfl) ?_
  refine L_ald 1 C dL_law_478 rfl ?_
  refine L_arg (j := 1) C dL_law_479 dL_law_480 dL_law_481 dL_law_482 dL_law_483 rfl (by omega) ?_
  refine L_callM (y := yX3_next) (n := 1) C dL_law_484 ⟨⟨⟨tw_482, tw_5, tw_485⟩, by decide +kernel, by decide⟩, tw_483, tw_484⟩ rfl (c_X3_next am (xs (i + 1)) s sv2 tx cu ho mf e2) (by decide) rfl rfl (Nat.le_of_ble_eq_true rfl) ?_
  refine L_same (tgt := 732) C dL_law_487 (by decide) ?_
  exact k _ _ _ _ _ _ _ _ _ _ _ _ _ _ _ _ h'
theorem case_test {G : GT} {b L i : Nat} {xs : Nat → Int32} {ad am : Nat → Nat} (C : LC G b L xs) (hi4 : i + 4 ≤ L) (k : HD G b i 732 ad am) : HD G b i 492 ad am := by
  intro nr nf tr tf co pf hi sl sv ff s sv2 tx cu ho mf h
  obtain ⟨v, tr', tf', s', cu', ho', mf', e1, e2, h'⟩ := sim_test h (xs (i + 1)) (xs (i + 2)) (xs (i + 3)) tr tf cu ho
  refine L_ald 2 C dL_law_492 rfl ?_
  refine L_arg (j := 1) C dL_law_493 dL_law_494 dL_law_495 dL_law_496 dL_law_497 rfl (by omega) ?_
  refine L_arg (j := 2) C dL_law_498 dL_law_499 dL_law_500 dL_law_501 dL_law_502 rfl (by omega) ?_
  refine L_arg (j := 3) C dL_law_503 dL_law_504 dL_law_505 dL_law_506 dL_law_507 rfl (by omega) ?_
  refine L_callF (y := yX2_test) (n := 3) C dL_law_508 ⟨⟨⟨tw_493, tw_2, tw_496⟩, by decide +kernel, by decide⟩, tw_494, tw_495⟩ rfl (c_X2_test ad (xs (i + 1)) (xs (i + 2)) (xs (i + 3)) nr nf tr tf co pf hi sl sv ff e1) (by decide) rfl rfl (Nat.le_of_ble_eq_true rfl) ?_
  refine L_ald 1 C dL_law_511 rfl ?_
  refine L_arg (j := 1) C dL_law_512 dL_law_513 dL_law_514 dL_law_515 dL_law_516 rfl (by omega) ?_
  refine L_arg (j := 2) C dL_law_517 dL_law_518 dL_law_519 dL_law_520 dL_law_521 rfl (by omega) ?_
  refine L_arg (j := 3) C dL_law_522 dL_law_523 dL_law_524 dL_law_525 dL_law_526 rfl (by omega) ?_
  refine L_callM (y := yX3_test) (n := 3) C dL_law_527 ⟨⟨⟨tw_511, tw_5, tw_514⟩, by decide +kernel, by decide⟩, tw_512, tw_513⟩ rfl (c_X3_test am (xs (i + 1)) (xs (i + 2)) (xs (i + 3)) s sv2 tx cu ho mf e2) (by decide) rfl rfl (Nat.le_of_ble_eq_true rfl) ?_
  refine L_same (tgt := 732) C dL_law_530 (by decide) ?_
  exact k _ _ _ _ _ _ _ _ _ _ _ _ _ _ _ _ h'
theorem case_unfair {G : GT} {b L i : Nat} {xs : Nat → Int32} {ad am : Nat → Nat} (C : LC G b L xs) (hi4 : i + 4 ≤ L) (k : HD G b i 732 ad am) : HD G b i 535 ad am := by
  intro nr nf tr tf co pf hi sl sv ff s sv2 tx cu ho mf h
  obtain ⟨v, tr', tf', s', cu', ho', mf', e1, e2, h'⟩ := sim_unfair h (xs (i + 1)) tr tf cu ho
  refine L_ald 2 C dL_law_535 rfl ?_
  refine L_arg (j := 1) C dL_law_536 dL_law_537 dL_law_538 dL_law_539 dL_law_540 rfl (by omega) ?_
  refine L_callF (y := yX2_unfair) (n := 1) C dL_law_541 ⟨⟨⟨tw_520, tw_2, tw_523⟩, by decide +kernel, by decide⟩, tw_521, tw_522⟩ rfl (c_X2_unfair ad (xs (i + 1)) nr nf tr tf co pf hi sl sv ff e1) (by decide) rfl rfl (Nat.le_of_ble_eq_true rfl) ?_
  refine L_ald 1 C dL_law_544 rfl ?_
  refine L_arg (j := 1) C dL_law_545 dL_law_546 dL_law_547 dL_law_548 dL_law_549 rfl (by omega) ?_
  refine L_callM (y := yX3_unfair) (n := 1) C dL_law_550 ⟨⟨⟨tw_532, tw_5, tw_535⟩, by decide +kernel, by decide⟩, tw_533, tw_534⟩ rfl (c_X3_unfair am (xs (i + 1)) s sv2 tx cu ho mf e2) (by decide) rfl rfl (Nat.le_of_ble_eq_true rfl) ?_
  refine L_same (tgt := 732) C dL_law_553 (by decide) ?_
  exact k _ _ _ _ _ _ _ _ _ _ _ _ _ _ _ _ h'
theorem case_ifOpen {G : GT} {b L i : Nat} {xs : Nat → Int32} {ad am : Nat → Nat} (C : LC G b L xs) (hi4 : i + 4 ≤ L) (k : HD G b i 732 ad am) : HD G b i 558 ad am := by
  intro nr nf tr tf co pf hi sl sv ff s sv2 tx cu ho mf h
  obtain ⟨v, e1, e2⟩ := sim_ifOpen h.1 (xs (i + 1))
  refine L_ald 2 C dL_law_558 rfl ?_
  refine L_arg (j := 1) C dL_law_559 dL_law_560 dL_law_561 dL_law_562 dL_law_563 rfl (by omega) ?_
  refine L_callF (y := yX2_ifOpen) (n := 1) C dL_law_564 ⟨⟨⟨tw_537, tw_2, tw_540⟩, by decide +kernel, by decide⟩, tw_538, tw_539⟩ rfl (c_X2_ifOpen ad (xs (i + 1)) nr nf tr tf co pf hi sl sv ff e1) (by decide) rfl rfl (Nat.le_of_ble_eq_true rfl) ?_
  refine L_ald 1 C dL_law_567 rfl ?_
  refine L_arg (j := 1) C dL_law_568 dL_law_569 dL_law_570 dL_law_571 dL_law_572 rfl (by omega) ?_
  refine L_callM (y := yX3_ifOpen) (n := 1) C dL_law_573 ⟨⟨⟨tw_542, tw_5, tw_545⟩, by decide +kernel, by decide⟩, tw_543, tw_544⟩ rfl (c_X3_ifOpen am (xs (i + 1)) s sv2 tx cu ho mf e2) (by decide) rfl rfl (Nat.le_of_ble_eq_true rfl) ?_
  refine L_same (tgt := 732) C dL_law_576 (by decide) ?_
  exact k _ _ _ _ _ _ _ _ _ _ _ _ _ _ _ _ h
theorem case_put {G : GT} {b L i : Nat} {xs : Nat → Int32} {ad am : Nat → Nat} (C : LC G b L xs) (hi4 : i + 4 ≤ L) (k : HD G b i 732 ad am) : HD G b i 581 ad am := by
  intro nr nf tr tf co pf hi sl sv ff s sv2 tx cu ho mf h
  obtain ⟨v, co', pf', tx', mf', e1, e2, h'⟩ := sim_put h (zlshl (xs (i + 1)).toInt64 32 ||| ((xs (i + 2)).toInt64 &&& 4294967295))
  refine L_ald 2 C dL_law_581 rfl ?_
  refine L_arg (j := 1) C dL_law_582 dL_law_583 dL_law_584 dL_law_585 dL_law_586 rfl (by omega) ?_
  refine L_i2l C dL_law_587 ?_
  refine L_bip (v := 32) C dL_law_588 (by decide) ?_
  refine L_shl C dL_law_590 ?_
  refine L_arg (j := 2) C dL_law_591 dL_law_592 dL_law_593 dL_law_594 dL_law_595 rfl (by omega) ?_
  refine L_i2l C dL_law_596 ?_
  refine L_ldc2 C dL_law_597 tw_6 ?_
  refine L_land C dL_law_600 ?_
  refine L_lor C dL_law_601 ?_
  refine L_callF (y := yX2_put) (n := 1) C dL_law_602 ⟨⟨⟨tw_546, tw_2, tw_549⟩, by decide +kernel, by decide⟩, tw_547, tw_548⟩ rfl (c_X2_put ad (zlshl (xs (i + 1)).toInt64 32 ||| ((xs (i + 2)).toInt64 &&& 4294967295)) nr nf tr tf co pf hi sl sv ff e1) (by decide) rfl rfl (Nat.le_of_ble_eq_true rfl) ?_
  refine L_ald 1 C dL_law_605 rfl ?_
  refine L_arg (j := 1) C dL_law_606 dL_law_607 dL_law_608 dL_law_609 dL_law_610 rfl (by omega) ?_
  refine L_i2l C dL_law_611 ?_
  refine L_bip (v := 32) C dL_law_612 (by decide) ?_
  refine L_shl C dL_law_614 ?_
  refine L_arg (j := 2) C dL_law_615 dL_law_616 dL_law_617 dL_law_618 dL_law_619 rfl (by omega) ?_
  refine L_i2l C dL_law_620 ?_
  refine L_ldc2 C dL_law_621 tw_6 ?_
  refine L_land C dL_law_624 ?_
  refine L_lor C dL_law_625 ?_
  refine L_callM (y := yX3_put) (n := 1) C dL_law_626 ⟨⟨⟨tw_560, tw_5, tw_563⟩, by decide +kernel, by decide⟩, tw_561, tw_562⟩ rfl (c_X3_put am (zlshl (xs (i + 1)).toInt64 32 ||| ((xs (i + 2)).toInt64 &&& 4294967295)) s sv2 tx cu ho mf e2) (by decide) rfl rfl (Nat.le_of_ble_eq_true rfl) ?_
  refine L_same (tgt := 732) C dL_law_629 (by decide) ?_
  exact k _ _ _ _ _ _ _ _ _ _ _ _ _ _ _ _ h'
theorem case_wipe {G : GT} {b L i : Nat} {xs : Nat → Int32} {ad am : Nat → Nat} (C : LC G b L xs) (hi4 : i + 4 ≤ L) (k : HD G b i 732 ad am) : HD G b i 634 ad am := by
  intro nr nf tr tf co pf hi sl sv ff s sv2 tx cu ho mf h
  obtain ⟨v, pf', mf', e1, e2, h'⟩ := sim_wipe h
  refine L_ald 2 C dL_law_634 rfl ?_
  refine L_callF (y := yX2_wipe) (n := 0) C dL_law_635 ⟨⟨⟨tw_570, tw_2, tw_573⟩, by decide +kernel, by decide⟩, tw_571, tw_572⟩ rfl (c_X2_wipe ad  nr nf tr tf co pf hi sl sv ff e1) (by decide) rfl rfl (Nat.le_of_ble_eq_true rfl) ?_
  refine L_ald 1 C dL_law_638 rfl ?_
  refine L_callM (y := yX3_wipe) (n := 0) C dL_law_639 ⟨⟨⟨tw_578, tw_5, tw_581⟩, by decide +kernel, by decide⟩, tw_579, tw_580⟩ rfl (c_X3_wipe am  s sv2 tx cu ho mf e2) (by decide) rfl rfl (Nat.le_of_ble_eq_true rfl) ?_
  refine L_same (tgt := 732) C dL_law_642 (by decide) ?_
  exact k _ _ _ _ _ _ _ _ _ _ _ _ _ _ _ _ h'
theorem case_fault {G : GT} {b L i : Nat} {xs : Nat → Int32} {ad am : Nat → Nat} (C : LC G b L xs) (hi4 : i + 4 ≤ L) (k : HD G b i 732 ad am) : HD G b i 647 ad am := by
  intro nr nf tr tf co pf hi sl sv ff s sv2 tx cu ho mf h
  obtain ⟨v, pf', mf', e1, e2, h'⟩ := sim_fault h
  refine L_ald 2 C dL_law_647 rfl ?_
  refine L_callF (y := yX2_fault) (n := 0) C dL_law_648 ⟨⟨⟨tw_582, tw_2, tw_585⟩, by decide +kernel, by decide⟩, tw_583, tw_584⟩ rfl (c_X2_fault ad  nr nf tr tf co pf hi sl sv ff e1) (by decide) rfl rfl (Nat.le_of_ble_eq_true rfl) ?_
  refine L_ald 1 C dL_law_651 rfl ?_
  refine L_callM (y := yX3_fault) (n := 0) C dL_law_652 ⟨⟨⟨tw_626, tw_5, tw_629⟩, by decide +kernel, by decide⟩, tw_627, tw_628⟩ rfl (c_X3_fault am  s sv2 tx cu ho mf e2) (by decide) rfl rfl (Nat.le_of_ble_eq_true rfl) ?_
  refine L_same (tgt := 732) C dL_law_655 (by decide) ?_
  exact k _ _ _ _ _ _ _ _ _ _ _ _ _ _ _ _ h'
theorem case_carryOut {G : GT} {b L i : Nat} {xs : Nat → Int32} {ad am : Nat → Nat} (C : LC G b L xs) (hi4 : i + 4 ≤ L) (k : HD G b i 732 ad am) : HD G b i 660 ad am := by
  intro nr nf tr tf co pf hi sl sv ff s sv2 tx cu ho mf h
  obtain ⟨v, nr', nf', pf', hi', ff', s', cu', ho', mf', e1, e2, h'⟩ := sim_carryOut h nf cu ho
  refine L_ald 2 C dL_law_660 rfl ?_
  refine L_callF (y := yX2_carryOut) (n := 0) C dL_law_661 ⟨⟨⟨tw_667, tw_2, tw_670⟩, by decide +kernel, by decide⟩, tw_668, tw_669⟩ rfl (c_X2_carryOut ad  nr nf tr tf co pf hi sl sv ff e1) (by decide) rfl rfl (Nat.le_of_ble_eq_true rfl) ?_
  refine L_ald 1 C dL_law_664 rfl ?_
  refine L_callM (y := yX3_carryOut) (n := 0) C dL_law_665 ⟨⟨⟨tw_693, tw_5, tw_696⟩, by decide +kernel, by decide⟩, tw_694, tw_695⟩ rfl (c_X3_carryOut am  s sv2 tx cu ho mf e2) (by decide) rfl rfl (Nat.le_of_ble_eq_true rfl) ?_
  refine L_same (tgt := 732) C dL_law_668 (by decide) ?_
  exact k _ _ _ _ _ _ _ _ _ _ _ _ _ _ _ _ h'
theorem case_undo {G : GT} {b L i : Nat} {xs : Nat → Int32} {ad am : Nat → Nat} (C : LC G b L xs) (hi4 : i + 4 ≤ L) (k : HD G b i 732 ad am) : HD G b i 673 ad am := by
  intro nr nf tr tf co pf hi sl sv ff s sv2 tx cu ho mf h
  obtain ⟨v, nr', ff', s', mf', e1, e2, h'⟩ := sim_undo h
  refine L_ald 2 C dL_law_673 rfl ?_
  refine L_callF (y := yX2_undo) (n := 0) C dL_law_674 ⟨⟨⟨tw_706, tw_2, tw_709⟩, by decide +kernel, by decide⟩, tw_707, tw_708⟩ rfl (c_X2_undo ad  nr nf tr tf co pf hi sl sv ff e1) (by decide) rfl rfl (Nat.le_of_ble_eq_true rfl) ?_
  refine L_ald 1 C dL_law_677 rfl ?_
  refine L_callM (y := yX3_undo) (n := 0) C dL_law_678 ⟨⟨⟨tw_714, tw_5, tw_717⟩, by decide +kernel, by decide⟩, tw_715, tw_716⟩ rfl (c_X3_undo am  s sv2 tx cu ho mf e2) (by decide) rfl rfl (Nat.le_of_ble_eq_true rfl) ?_
  refine L_same (tgt := 732) C dL_law_681 (by decide) ?_
  exact k _ _ _ _ _ _ _ _ _ _ _ _ _ _ _ _ h'
theorem case_save {G : GT} {b L i : Nat} {xs : Nat → Int32} {ad am : Nat → Nat} (C : LC G b L xs) (hi4 : i + 4 ≤ L) (k : HD G b i 732 ad am) : HD G b i 686 ad am := by
  intro nr nf tr tf co pf hi sl sv ff s sv2 tx cu ho mf h
  obtain ⟨v, sl', sv', s', sv2', e1, e2, h'⟩ := sim_save h (xs (i + 1))
  refine L_ald 2 C dL_law_686 rfl ?_
  refine L_arg (j := 1) C dL_law_687 dL_law_688 dL_law_689 dL_law_690 dL_law_691 rfl (by omega) ?_
  refine L_callF (y := yX2_save) (n := 1) C dL_law_692 ⟨⟨⟨tw_718, tw_2, tw_721⟩, by decide +kernel, by decide⟩, tw_719, tw_720⟩ rfl (c_X2_save ad (xs (i + 1)) nr nf tr tf co pf hi sl sv ff e1) (by decide) rfl rfl (Nat.le_of_ble_eq_true rfl) ?_
  refine L_ald 1 C dL_law_695 rfl ?_
  refine L_arg (j := 1) C dL_law_696 dL_law_697 dL_law_698 dL_law_699 dL_law_700 rfl (by omega) ?_
  refine L_callM (y := yX3_save) (n := 1) C dL_law_701 ⟨⟨⟨tw_725, tw_5, tw_728⟩, by decide +kernel, by decide⟩, tw_726, tw_727⟩ rfl (c_X3_save am (xs (i + 1)) s sv2 tx cu ho mf e2) (by decide) rfl rfl (Nat.le_of_ble_eq_true rfl) ?_
  refine L_same (tgt := 732) C dL_law_704 (by decide) ?_
  exact k _ _ _ _ _ _ _ _ _ _ _ _ _ _ _ _ h'
theorem case_restore {G : GT} {b L i : Nat} {xs : Nat → Int32} {ad am : Nat → Nat} (C : LC G b L xs) (hi4 : i + 4 ≤ L) (k : HD G b i 732 ad am) : HD G b i 709 ad am := by
  intro nr nf tr tf co pf hi sl sv ff s sv2 tx cu ho mf h
  obtain ⟨v, nr', hi', ff', s', mf', e1, e2, h'⟩ := sim_restore h (xs (i + 1))
  refine L_ald 2 C dL_law_709 rfl ?_
  refine L_arg (j := 1) C dL_law_710 dL_law_711 dL_law_712 dL_law_713 dL_law_714 rfl (by omega) ?_
  refine L_callF (y := yX2_restore) (n := 1) C dL_law_715 ⟨⟨⟨tw_732, tw_2, tw_735⟩, by decide +kernel, by decide⟩, tw_733, tw_734⟩ rfl (c_X2_restore ad (xs (i + 1)) nr nf tr tf co pf hi sl sv ff e1) (by decide) rfl rfl (Nat.le_of_ble_eq_true rfl) ?_
  refine L_ald 1 C dL_law_718 rfl ?_
  refine L_arg (j := 1) C dL_law_719 dL_law_720 dL_law_721 dL_law_722 dL_law_723 rfl (by omega) ?_
  refine L_callM (y := yX3_restore) (n := 1) C dL_law_724 ⟨⟨⟨tw_736, tw_5, tw_739⟩, by decide +kernel, by decide⟩, tw_737, tw_738⟩ rfl (c_X3_restore am (xs (i + 1)) s sv2 tx cu ho mf e2) (by decide) rfl rfl (Nat.le_of_ble_eq_true rfl) ?_
  refine L_same (tgt := 732) C dL_law_727 (by decide) ?_
  exact k _ _ _ _ _ _ _ _ _ _ _ _ _ _ _ _ h'
