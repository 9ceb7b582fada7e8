/-! The law's own frame: the script, a word of it, the end -/
def lX (G : GT) (b L : Nat) (xs : zA) : Prop := va_X b L xs (gs G) (gs G).heap ∧ b < (gs G).heap.size ∧ ¬ gA G b
def lF (G : GT) (b L : Nat) (xs : zA) (v : Int32) : Prop := lX G b L xs ∧ v = 1 ∧ gR G = room_1 ∧ ga G = #[Value.ref b] ∧ gN G = (600000, 7302250) ∧ gZ G = lw_Z (gb G) #[Value.ref b] (gs G) ∧ ∀ q : Nat, gA G q → (gs G).heap.size ≤ q
theorem y_zret {G : GT} {b L d pc nL : Nat} {xs : zA} {own : String} {v : Int32} {ls : List (Nat × Value)} {ws : va_W} (C : zC G cL_law nL own (some .boolean) d) (hd : decode cL_law pc = .ok (.ireturn, 1)) (_ : narrow .boolean (.int v) = .int v) (F : lF G b L xs v) : zV G nL pc ls [.int v] ws := by
  intro H locs la hP hD hS hl
  obtain ⟨hX, hv, hR, ha, hN, hZ, hfr⟩ := F
  subst hv
  rw [hR, ha, hN, hZ]
  exact va_forget (fun q hq => hfr _ (hS.2.2 q hq)) (lw_ret C.1.1 C.1.2.1 C.2.2.2.2.1 C.2.2.2.1 hd)
def zBX (D : va_G) (cs : ClassId × ClassId × ClassId) (b L : Nat) (xs : zA) (sz : Nat) (U : State) : Prop := zB D cs [] sz U ∧ va_X b L xs U U.heap ∧ b < sz
def zMX (l : Launch) (D : va_G) (cs : ClassId × ClassId × ClassId) (b L : Nat) (xs : zA) (a rv : Int32) : Prop :=
  ∀ sz : Nat, Met l yL_cell (.code yL_cell cL_cell 2 (some .int) :: lw_tg) (Rmd 0) (va_Pc [.ref b, .int a] (zBX D cs b L xs sz)) (va_Qi (fun v (_ : Unit) => v = rv) (fun _ t => va_P D vwCl [] t.heap) (va_A [] sz)) 0 0 (va_A [] sz)
theorem zBX_blind {D : va_G} {cs : ClassId × ClassId × ClassId} {b L : Nat} {xs : zA} {sz : Nat} {As : List Value} : FrameBlind (va_Pc As (zBX D cs b L xs sz)) := fun a U g mk q => by
  obtain ⟨q0, ⟨q1, q2, q3, q4, q5⟩, q6, q7⟩ := q
  exact ⟨q0, ⟨q1, q2, va_K.moved (u := U) (U := U.calling g mk a) (Vm.Alike.refl U.vm) q3, q4, zSt.moved (u := U) (U := U.calling g mk a) (Vm.Alike.refl U.vm) q5⟩, va_X.moved (u := U) (U := U.calling g mk a) (Vm.Alike.refl U.vm) q6, q7⟩
theorem z_slen {G : GT} {cc : ByteArray} {nL b L d pc : Nat} {xs : zA} {own : String} {ret : Option FieldType} {ls : List (Nat × Value)} {st : List Value} {ws : va_W} (C : zC G cc nL own ret d) (X : lX G b L xs) (hd : decode cc pc = .ok (.arraylength, 1)) (k : zV G nL (pc + 1) ls (.int (nI L) :: st) ws) : zV G nL pc ls (.ref b :: st) ws := fun H locs la hP hD hS hl => va_slen C.1.1 C.1.2.1 X.1 X.2.1 X.2.2 hS hd (k H locs la hP hD hS hl)
theorem z_sld {G : GT} {cc : ByteArray} {nL b L d pc j : Nat} {xs : zA} {own : String} {ret : Option FieldType} {ls : List (Nat × Value)} {st : List Value} {ws : va_W} {i : Int32} (C : zC G cc nL own ret d) (X : lX G b L xs) (hi : zin i L j) (hd : decode cc pc = .ok (.iaload, 1)) (k : zV G nL (pc + 1) ls (.int (xs j) :: st) ws) : zV G nL pc ls (.int i :: .ref b :: st) ws := by
  obtain ⟨h1, rfl⟩ := hi
  exact fun H locs la hP hD hS hl => va_sld C.1.1 C.1.2.1 X.1 X.2.1 X.2.2 hS h1 hd (k H locs la hP hD hS hl)
theorem c_L_cell {l : Launch} {D : va_G} {cs : ClassId × ClassId × ClassId} {b L : Nat} {xs : zA} {a v : Int32} (e : cellf L xs a = some v) : zMX l D cs b L xs a v := by
  intro sz
  refine Met.ofW (cc := cL_cell) (maxL := 2) (ret := some .int) (by decide +kernel) rfl ?_
  intro p e' s m args below meth c s₁ B hml hv
  obtain ⟨rfl, ⟨hsz, hP, hK, hD0, hSt⟩, hX, hb⟩ := hv
  subst hsz
  have hts := atoms_spec (ws := .code yL_cell cL_cell 2 (some .int) :: lw_tg) B.pre
  have hl := lv_entry [.ref b, .int a] (n := 2) (Nat.le_of_ble_eq_true rfl)
  rw [lg_entry_eq]
  have key : ∀ G : GT, zC G cL_cell 2 RL (some .int) 0 → lX G b L xs → zF G (some (.int v)) [] → zV G 2 0 [(0, .ref b), (1, .int a)] [] [] := by
    intro G C X F
    refine z_iload_n 1 C dL_cell_0 rfl ?_
    refine z_aload_n 0 C dL_cell_1 rfl ?_
    refine z_slen C X dL_cell_2 ?_
    unfold cellf at e
    refine z_icmp_ge (tgt := 12) C dL_cell_3 rfl (fun hc => ?_) (fun hc => ?_)
    · rw [if_pos hc] at e
      have ev := Option.some.inj e
      subst ev
      refine z_ldc C dL_cell_12 tw_1 ?_
      refine z_iload_n 1 C dL_cell_14 rfl ?_
      refine z_iconst (v := 1) C dL_cell_15 (by decide) ?_
      refine z_iadd C dL_cell_16 ?_
      refine z_imul C dL_cell_17 ?_
      refine z_ldc C dL_cell_18 tw_2 ?_
      refine z_iadd C dL_cell_20 ?_
      exact z_iret C dL_cell_21 F
    · rw [if_neg hc] at e
      obtain ⟨j, hj, e⟩ := gd_e e
      have ev := Option.some.inj e
      subst ev
      refine z_aload_n 0 C dL_cell_6 rfl ?_
      refine z_iload_n 1 C dL_cell_7 rfl ?_
      refine z_sld C X hj dL_cell_8 ?_
      refine z_goto (tgt := 21) C dL_cell_9 rfl ?_
      exact z_iret C dL_cell_21 F
  exact key (p, l, e', Rmd 0, s, m, [.ref b, .int a].toArray, below, meth, c, D, cs, va_A [] s.heap.size, va_Qi (fun z (_ : Unit) => z = v) (fun _ t => va_P D vwCl [] t.heap) (va_A [] s.heap.size), (0, 0), MQ below (va_Qi (fun z (_ : Unit) => z = v) (fun _ t => va_P D vwCl [] t.heap) (va_A [] s.heap.size)) [.ref b, .int a].toArray s 0 0 (va_A [] s.heap.size))
    ⟨⟨B.exec, B.bytes, hml, findClass_of_methodNamed B.named, fun w hw => hts w (List.mem_cons_of_mem _ hw)⟩, hK, ⟨Nat.le_refl _, Nat.le_refl _, Nat.zero_le _, Nat.zero_le _⟩, B.notSynchronized, B.returns, fun q h => Or.inr h, hSt⟩
    ⟨hX, hb, fun h => by
      rcases h with ⟨k, q, h⟩ | h
      · simp at h
      · exact absurd hb (Nat.not_lt.mpr h)⟩
    ⟨⟨rfl, rfl⟩, fun H locs t hP2 hS2 ht => ⟨⟨v, (), rfl, rfl, by show va_P D vwCl [] t.heap; rw [ht]; exact hP2⟩, va_S.F hS2 ht⟩⟩ s.heap [] _ hP (hD0.self) va_S.rf hl
theorem z_callX {G : GT} {cc : ByteArray} {nL b L d pc index : Nat} {xs : zA} {a rv : Int32} {own : String} {ret : Option FieldType} {ls : List (Nat × Value)} {st stk : List Value} {ws : va_W} (C : zC G cc nL own ret (d + 1)) (X : lX G b L xs) (hd : decode cc pc = .ok (.invokestatic index, 3)) (w : zWS own index yL_cell cL_cell 2 (some .int) 2) (e : cellf L xs a = some rv) (hst : stk = .int a :: .ref b :: st) (hcat : (st.map fun v => v.category).sum ≤ 8)
    (kk : zV G nL (pc + 3) ls (.int rv :: st) ws) : zV G nL pc ls stk ws := by
  intro H locs la hP hD hS hl
  subst hst
  have hC : ([] : List Nat).map (fun i => ws[i]?) = ([] : va_W).map some := rfl
  have hPc := hP.sub [] (zfm hC)
  have hDc := hD.sub [] rfl hC
  have hFc := va_free hD hS C.2.2.2.2.2.1 [] hC
  have hb : b < H.size := Nat.lt_of_lt_of_le X.2.1 hS.1
  have hXH : va_X b L xs (gs G) H := X.1.kept (hS.2.1 b X.2.1 X.2.2)
  refine va_calli (va_runS (As := [.ref b, .int a]) (rest := st) C.1 (c_L_cell (l := gl G) (D := gD G) (cs := gk G) (b := b) e H.size) ⟨zCB ⟨C.2.2.1.1, C.2.2.1.2.1⟩ C.1.2.2.2.2 w.1 (Nat.succ_pos d), C.1.2.2.2.2 _ w.2⟩ ⟨zBX_blind, fun U hU hW => ⟨rfl, ⟨by rw [hU], by rw [hU]; exact hPc, va_K.moved hW.alike C.2.1, hDc.weaken (fun _ _ _ _ => trivial), by rw [hU]; exact ((C.2.2.2.2.2.2.kept (fun q h1 h2 => hS.2.1 q h1 h2)).narrow hFc).moved hW.alike⟩, by rw [hU]; exact hXH.moved hW.alike, hb⟩⟩ rfl rfl hl.1 rfl (lv_room hcat) hd ⟨C.2.2.1.2.2.1, C.2.2.1.2.2.2⟩) hS (fun q _ h => hFc q h) hFc (fun r u t H1 locs1 ht hvm hw hB hz1 hk1 hS1 => ?_)
  rw [ht] at hB
  obtain ⟨hP1, hD1⟩ := zput_P (w1 := []) hP hD hC rfl hk1 hB
  cases hw
  exact kk H1 locs1 la hP1 hD1 hS1 hl
