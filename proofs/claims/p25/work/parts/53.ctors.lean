/-! Constructors -/
def zz : zA := fun _ => 0
def st3 : zA := upd (upd (upd zz 0 1) 1 2) 2 10
def mk0 : Room := { frames := 1, cells := 2, slots := 135, locals := 30 }
def mk1 : Room := { frames := 1, cells := 1, slots := 80, locals := 30 }
theorem i_ws {G : GT} {Q : State → Prop} {nL k n pc : Nat} {ls : List (Nat × Value)} {st : List Value} {ws ws2 : va_W} (h : ws = ws2) (kk : iJ G Q nL k n pc ls st ws2) : iJ G Q nL k n pc ls st ws := h ▸ kk
theorem i_call {G : GT} {Q : State → Prop} {cc : ByteArray} {nL k n pc : Nat} {own : String} {ls : List (Nat × Value)} {st : List Value} {index a ci : Nat} {y : MethodName} {bytes : ByteArray} {rm : Room} {fs : List Value} {post : Nat → va_W → Prop} {wr : va_W} (C : iC G cc nL own) (hd : decode cc pc = .ok (.invokespecial index, 3)) (hM : zI (gl G) (gD G) (gk G) y bytes rm ci fs post) (hyn : y.name = "<init>") (w1 : Cond.methodLink own index y ∈ lw_tg) (w2 : Cond.initialized y.cls ∈ lw_tg) (w3 : Cond.code y bytes 1 none ∈ lw_tg) (w4 : Cond.instanceMethod y ∈ lw_tg) (hcl : y.cls ≠ "java/lang/invoke/MethodHandle" ∧ y.cls ≠ "java/lang/invoke/VarHandle" ∧ (parseMethodDescriptor y.desc).map (fun d => d.parameters.length) = some 0) (hR : rm.frames + 1 ≤ (gR G).frames ∧ 8 + (1 + 11) + rm.locals ≤ (gR G).locals) (hk : k + rm.cells ≤ (gR G).cells) (hn : n + rm.slots ≤ (gR G).slots) (hcat : (st.map fun v => v.category).sum ≤ 8) (kk : ∀ w : va_W, post a w → iJ G Q nL (k + rm.cells) (n + rm.slots) (pc + 3) ls st (wr ++ w)) : iJ G Q nL k n pc ls (.ref a :: st) (wr ++ [(a, .inr (ci, fs))]) := by
  intro H locs la hP hD hS hl
  have hPc := hP.sub (ws' := [(a, .inr (ci, fs))]) [wr.length] (by simp)
  have hDc := hD.sub (ws' := [(a, .inr (ci, fs))]) [wr.length] (by simp [va_nd]) (by simp)
  have hFc := va_free (wc := [(a, .inr (ci, fs))]) hD hS C.2.2.1 [wr.length] (by simp)
  refine va_callv (va_runI (As := []) (rest := st) C.1 (hM a H.size) ⟨callB_of 0 C.1.2.2.2.2 (zGood w3) rfl rfl rfl (C.1.2.2.2.2 _ w2) (C.1.2.2.2.2 _ w1) hcl hR, hyn, C.1.2.2.2.2 _ w4⟩ ⟨fun a U g mk q => by obtain ⟨q0, q1, qP, qK, qD, qO⟩ := q; exact ⟨q0, q1, qP, va_K.moved (u := U) (U := U.calling g mk a) (Vm.Alike.refl U.vm) qK, qD, zAO.moved (u := U) (U := U.calling g mk a) (Vm.Alike.refl U.vm) qO⟩, fun U hU hW => ⟨rfl, by rw [hU], by rw [hU]; exact hPc, va_K.moved hW.alike C.2.1, hDc.weaken (fun _ _ _ _ => trivial), zAO.moved hW.alike C.2.2.2⟩⟩ rfl rfl hl.1 rfl (lv_room hcat) hd ⟨hk, hn⟩) hS (fun q _ h => hFc q h) hFc (fun w t H1 locs1 ht hvm hw hB hz1 hk1 hS1 => ?_)
  obtain ⟨hP1, hD1⟩ := hB
  rw [ht] at hP1
  obtain ⟨hP2, hD2⟩ := va_join (wr := wr) (w1 := w) hP hD [wr.length] (List.range wr.length) (by simp) (by
    rw [← zmapall wr]
    apply List.map_congr_left
    intro i hi
    rw [List.getElem?_append_left (List.mem_range.mp hi)]) (znd_range _) (fun i hi h => by
    have h1 := List.mem_range.mp hi
    have h2 := List.mem_singleton.mp h
    omega) hk1 hFc hP1 hD1
  exact kk w hw H1 locs1 la hP2 hD2 hS1 hl
theorem k_X0 (l : Launch) (D : va_G) (cs : ClassId × ClassId × ClassId) : zI l D cs yX0_init cX0_init mk0 0 [.null, .null] (fun h w => ∃ r fl, w = HW cs h r fl st3 zz) := by
  refine zI_of (by decide +kernel) rfl fun G Q h0 g1 g2 g3 g4 C hin ret => ?_
  subst g3
  refine i_ald 0 C dX0_init_0 rfl ?_
  refine i_obj C dX0_init_1 tw_342 (by rw [g4]; decide) (by rw [g4]; decide) ?_
  refine i_ald 0 C dX0_init_4 rfl ?_
  refine i_bip (v := 125) C dX0_init_5 (by decide) ?_
  refine i_newI (N := 125) C dX0_init_7 (by decide) (by omega) (by rw [g4]; decide) (by rw [g4]; decide) fun r => ?_
  refine i_ws (ws2 := [(h0, .inr (0, [.null, .null])), (r, aI (gk G) 125 (zz))]) rfl ?_
  refine i_putF (ws' := [(h0, .inr (0, [.ref r, .null])), (r, aI (gk G) 125 (zz))]) 0 0 C dX0_init_9 rfl in_X0 tyX0 tyX0_ok nmX0 (by decide) tw_25 rfl hin rfl rfl (by rfl) rfl (by simp) rfl ?_
  refine i_ald 0 C dX0_init_12 rfl ?_
  refine i_bip (v := 10) C dX0_init_13 (by decide) ?_
  refine i_newI (N := 10) C dX0_init_15 (by decide) (by omega) (by rw [g4]; decide) (by rw [g4]; decide) fun fl => ?_
  refine i_ws (ws2 := [(h0, .inr (0, [.ref r, .null])), (r, aI (gk G) 125 (zz)), (fl, aI (gk G) 10 (zz))]) rfl ?_
  refine i_putF (ws' := [(h0, .inr (0, [.ref r, .ref fl])), (r, aI (gk G) 125 (zz)), (fl, aI (gk G) 10 (zz))]) 0 1 C dX0_init_17 rfl in_X0 tyX0 tyX0_ok nmX0 (by decide) tw_104 rfl hin rfl rfl (by rfl) rfl (by simp) rfl ?_
  refine i_ald 0 C dX0_init_20 rfl ?_
  refine i_get 0 0 C dX0_init_21 rfl in_X0 (by decide) tw_25 rfl rfl ?_
  refine i_icn (v := nI 0) C dX0_init_24 (by decide) ?_
  refine i_icn (v := 1) C dX0_init_25 (by decide) ?_
  refine i_iast (ws' := [(h0, .inr (0, [.ref r, .ref fl])), (r, aI (gk G) 125 (upd zz 0 1)), (fl, aI (gk G) 10 (zz))]) 1 (N := 125) C dX0_init_26 (by decide) (by omega) rfl rfl ?_
  refine i_ald 0 C dX0_init_27 rfl ?_
  refine i_get 0 0 C dX0_init_28 rfl in_X0 (by decide) tw_25 rfl rfl ?_
  refine i_icn (v := nI 1) C dX0_init_31 (by decide) ?_
  refine i_icn (v := 2) C dX0_init_32 (by decide) ?_
  refine i_iast (ws' := [(h0, .inr (0, [.ref r, .ref fl])), (r, aI (gk G) 125 (upd (upd zz 0 1) 1 2)), (fl, aI (gk G) 10 (zz))]) 1 (N := 125) C dX0_init_33 (by decide) (by omega) rfl rfl ?_
  refine i_ald 0 C dX0_init_34 rfl ?_
  refine i_get 0 0 C dX0_init_35 rfl in_X0 (by decide) tw_25 rfl rfl ?_
  refine i_icn (v := nI 2) C dX0_init_38 (by decide) ?_
  refine i_bip (v := 10) C dX0_init_39 (by decide) ?_
  refine i_iast (ws' := [(h0, .inr (0, [.ref r, .ref fl])), (r, aI (gk G) 125 (upd (upd (upd zz 0 1) 1 2) 2 10)), (fl, aI (gk G) 10 (zz))]) 1 (N := 125) C dX0_init_41 (by decide) (by omega) rfl rfl ?_
  exact ret 42 _ _ dX0_init_42 ⟨r, fl, rfl⟩
theorem k_X1 (l : Launch) (D : va_G) (cs : ClassId × ClassId × ClassId) : zI l D cs yX1_init cX1_init mk1 1 [.null, .int 0, .int 0, .int 0, .int 0, .int 0, .int 0] (fun h w => ∃ q, w = PW cs h q zz zz) := by
  refine zI_of (by decide +kernel) rfl fun G Q h0 g1 g2 g3 g4 C hin ret => ?_
  subst g3
  refine i_ald 0 C dX1_init_0 rfl ?_
  refine i_obj C dX1_init_1 tw_346 (by rw [g4]; decide) (by rw [g4]; decide) ?_
  refine i_ald 0 C dX1_init_4 rfl ?_
  refine i_bip (v := 80) C dX1_init_5 (by decide) ?_
  refine i_newI (N := 80) C dX1_init_7 (by decide) (by omega) (by rw [g4]; decide) (by rw [g4]; decide) fun q => ?_
  refine i_ws (ws2 := [(h0, .inr (1, [.null, .int 0, .int 0, .int 0, .int 0, .int 0, .int 0])), (q, aI (gk G) 80 (zz))]) rfl ?_
  refine i_putF (ws' := [(h0, .inr (1, [.ref q, .int 0, .int 0, .int 0, .int 0, .int 0, .int 0])), (q, aI (gk G) 80 (zz))]) 0 0 C dX1_init_9 rfl in_X1 tyX1 tyX1_ok nmX1 (by decide) tw_347 rfl hin rfl rfl (by rfl) rfl (by simp) rfl ?_
  refine i_ald 0 C dX1_init_12 rfl ?_
  refine i_icn (v := 0) C dX1_init_13 (by decide) ?_
  refine i_put (ws' := [(h0, .inr (1, [.ref q, .int 0, .int 0, .int 0, .int 0, .int 0, .int 0])), (q, aI (gk G) 80 (zz))]) 0 1 C dX1_init_14 rfl in_X1 tyX1 tyX1_ok nmX1 (by decide) tw_184 rfl rfl (by rfl) rfl (by simp) rfl ?_
  refine i_ald 0 C dX1_init_17 rfl ?_
  refine i_icn (v := 0) C dX1_init_18 (by decide) ?_
  refine i_put (ws' := [(h0, .inr (1, [.ref q, .int 0, .int 0, .int 0, .int 0, .int 0, .int 0])), (q, aI (gk G) 80 (zz))]) 0 2 C dX1_init_19 rfl in_X1 tyX1 tyX1_ok nmX1 (by decide) tw_348 rfl rfl (by rfl) rfl (by simp) rfl ?_
  refine i_ald 0 C dX1_init_22 rfl ?_
  refine i_icn (v := 0) C dX1_init_23 (by decide) ?_
  refine i_put (ws' := [(h0, .inr (1, [.ref q, .int 0, .int 0, .int 0, .int 0, .int 0, .int 0])), (q, aI (gk G) 80 (zz))]) 0 3 C dX1_init_24 rfl in_X1 tyX1 tyX1_ok nmX1 (by decide) tw_349 rfl rfl (by rfl) rfl (by simp) rfl ?_
  refine i_ald 0 C dX1_init_27 rfl ?_
  refine i_icn (v := 0) C dX1_init_28 (by decide) ?_
  refine i_put (ws' := [(h0, .inr (1, [.ref q, .int 0, .int 0, .int 0, .int 0, .int 0, .int 0])), (q, aI (gk G) 80 (zz))]) 0 4 C dX1_init_29 rfl in_X1 tyX1 tyX1_ok nmX1 (by decide) tw_350 rfl rfl (by rfl) rfl (by simp) rfl ?_
  refine i_ald 0 C dX1_init_32 rfl ?_
  refine i_icn (v := 0) C dX1_init_33 (by decide) ?_
  refine i_put (ws' := [(h0, .inr (1, [.ref q, .int 0, .int 0, .int 0, .int 0, .int 0, .int 0])), (q, aI (gk G) 80 (zz))]) 0 5 C dX1_init_34 rfl in_X1 tyX1 tyX1_ok nmX1 (by decide) tw_351 rfl rfl (by rfl) rfl (by simp) rfl ?_
  refine i_ald 0 C dX1_init_37 rfl ?_
  refine i_icn (v := 0) C dX1_init_38 (by decide) ?_
  refine i_put (ws' := [(h0, .inr (1, [.ref q, .int 0, .int 0, .int 0, .int 0, .int 0, .int 0])), (q, aI (gk G) 80 (zz))]) 0 6 C dX1_init_39 rfl in_X1 tyX1 tyX1_ok nmX1 (by decide) tw_352 rfl rfl (by rfl) rfl (by simp) rfl ?_
  exact ret 42 _ _ dX1_init_42 ⟨q, rfl⟩
