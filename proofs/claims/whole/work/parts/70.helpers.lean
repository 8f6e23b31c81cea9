/-- none of the three exceptions is of another's kind -/
def zNc (U : State) : Prop := va_Nc "java/lang/IndexOutOfBoundsException" "java/lang/IllegalStateException" U ∧ va_Nc "java/lang/IllegalArgumentException" "java/lang/IllegalStateException" U ∧ va_Nc "java/lang/IllegalArgumentException" "java/lang/IndexOutOfBoundsException" U
theorem zNc.moved {u U : State} (h : u.vm.Alike U.vm) (z : zNc u) : zNc U := ⟨z.1.moved h, z.2.1.moved h, z.2.2.moved h⟩
/-- what the law's helpers need of the state -/
def zKL (sa : Nat → Nat) (A : Nat → Prop) (U : State) (H : Heap) : Prop := zKX sa A U H ∧ zNc U
theorem zKL.at {sa : Nat → Nat} {A : Nat → Prop} {s U : State} {H : Heap} {locs : List Loc} {ws : va_W} (h : zKL sa A s s.heap) (hA : ∀ q, s.heap.size ≤ q → A q) (hD : va_D A ws) (hS : va_S A s.heap H locs) (hU : U.heap = H) (hW : s.WarmedH U.vm) : zKL sa (va_A ws U.heap.size) U U.heap := ⟨h.1.at hA hD hS hU hW, h.2.moved hW.alike⟩
theorem zKL.call {sa : Nat → Nat} {ws : va_W} {U : State} {g : JFrame} {mk : MethodId} {a : Array Value} (h : zKL sa (va_A ws U.heap.size) U U.heap) : zKL sa (va_A ws (U.calling g mk a).heap.size) (U.calling g mk a) (U.calling g mk a).heap := ⟨h.1.call, h.2⟩
theorem zK_cast {E : String} {sa : Nat → Nat} {A : Nat → Prop} {s : State} {H : Heap} {args : Array Value} (h : zKX sa A s H) (hw : Cond.castable E E ∈ zK) : (Cond.castable E E).before args s = true := va_Nw.use (zK_on _ hw) (h.1 _ hw)
section XCATCH
variable {p : Program} {l : Launch} {e : Env} {R : Room} {s : State} {m : MethodId} {args : Array Value} {below : List Frame} {meth : Method} {c : Code} {cells slots : Nat} {Q : State → Prop}
variable {cc : ByteArray} {nL pc pc' : Nat} {own : String} {Ts : List Cond} {D : va_G} {cl : List vw_C} {tys : List (ClassId × FieldType)} {A : Nat → Prop} {H0 : Heap} {ws : va_W} {lv : List (Nat × Value)} {rest st : List Value}
theorem xx_catch (C : xw_C p s m args c cc nL own Ts D cl tys A H0) {hh : List (Nat × Nat × Nat × Nat)} (hx : c.exceptionTable.toList = tableOf hh) {E name : String} (pre : List ExceptionTableEntry) (x : ExceptionTableEntry) (suf : List ExceptionTableEntry) (hsplit : tableOf hh = pre ++ x :: suf)
    (hpass : ∀ z ∈ pre, z.catchType ≠ 0 ∧ ∃ nm : String, Cond.classLink own z.catchType nm ∈ Ts ∧ va_Nc E nm s) (hcov : covers x pc = true) (h0 : x.catchType ≠ 0) (hlink : Cond.classLink own x.catchType name ∈ Ts) (hcast : (Cond.castable E name).before args s = true)
    (kk : ∀ q : Nat, XW p l e R s m args below meth c D cl A H0 nL ws cells slots Q x.handlerPc lv [.ref q]) : XX p l e R s m args below meth c D cl A H0 nL ws cells slots Q pc lv E := by
  intro H locs ls rest q ce hP hD hS hl h3 h4 h5
  exact vx_catch C.2.2.2.1 pre x suf (hx.trans hsplit) (fun z hz => Or.inr ⟨(hpass z hz).1, (hpass z hz).2.choose, C.2.2.2.2.1 _ (hpass z hz).2.choose_spec.1, (hpass z hz).2.choose_spec.2⟩) hcov h0 (C.2.2.2.2.1 _ hlink) hcast h3 h4 h5 (kk q H locs ls hP hD hS hl)
theorem xw_metW {y : MethodName} {ws0 : List Cond} {rm : Room} {Qc : Array Value → State → Outcome → State → Prop} {mc ms maxL sz : Nat} {ret : Option FieldType} {hh : List (Nat × Nat × Nat × Nat)} {av : List Value} {W0 : va_W} {K : State → Prop}
    (hy : plainName y.cls = true) (hw : ws0 = Cond.codeWith y cc maxL ret hh :: Ts) (hn : (lg_sl av).length ≤ maxL)
    (body : ∀ (p : Program) (e : Env) (s : State) (m : MethodId) (args : Array Value) (below : List Frame) (meth : Method) (c : Code), meth.sig.returnType = ret → meth.locks = false → c.exceptionTable.toList = tableOf hh → s.heap.size = sz → K s → xw_C p s m args c cc maxL y.cls Ts D cl tys (va_A W0 sz) s.heap →
      XW p l e rm s m args below meth c D cl (va_A W0 sz) s.heap maxL W0 0 0 (MQ below Qc args s mc ms (va_A W0 sz)) 0 (lv_args 0 av) []) :
    Met l y ws0 rm (va_Pc av (xw_U D cl tys W0 sz K)) Qc mc ms (va_A W0 sz) := by
  refine va_MetW (cc := cc) (maxL := maxL) (ret := ret) (hh := hh) hy hw ?_
  intro p e s m args below meth c s₁ B hml hv
  obtain ⟨rfl, hsz, hP, hK, hD, hk⟩ := hv
  have hts0 : ∀ w ∈ ws0, w.before _ s = true := fun w h => atoms_spec (ws := ws0) B.pre w h
  have hts : ∀ w ∈ Ts, w.before _ s = true := fun w h => hts0 w (by rw [hw]; exact List.mem_cons_of_mem _ h)
  have htab := vx_table (x := y) B (hts0 _ (by rw [hw]; exact List.mem_cons_self))
  have hown : s.vm.findClass y.cls = some m.cls := findClass_of_methodNamed B.named
  rw [lg_entry_eq]
  refine body p e s m _ below meth c B.returns B.notSynchronized htab hsz hk ⟨B.exec, B.bytes, hml, hown, hts, hK, ?_⟩ s.heap [] _ hP ?_ va_S.rf (lv_entry av hn)
  · intro q h
    exact Or.inr (by omega)
  · exact hD.self
theorem xw_callSWi (C : xw_C p s m args c cc nL own Ts D cl tys A H0) {S : Type} {y : MethodName} {ws1 : List Cond} {rm : Room} {As : List Value} {K : State → Prop} {mc ms : Nat} {F : S → va_W} {post : Int32 → S → Prop} {index maxL n : Nat} {bytes : ByteArray} {ret : Option FieldType} {hh : List (Nat × Nat × Nat × Nat)}
    (hM : xw_Mi l y ws1 rm D cl tys As ws K mc ms F post) (cw : vx_CSW R s args own index y bytes maxL ret hh ws1 rm mc ms n)
    (hKb : ∀ (U : State) (g : JFrame) (mk : MethodId) (a : Array Value), K U → K (U.calling g mk a)) (hKc : ∀ (H : Heap) (locs : List Loc) (U : State), va_D A ws → va_S A H0 H locs → U.heap = H → s.WarmedH U.vm → K U)
    (hn : As.length = n) (hst : st = As.reverse ++ rest) (hW8 : (rest.map fun v => v.category).sum ≤ 8) (hdg : decode cc pc = .ok (.invokestatic index, 3)) (hf : cells + mc ≤ R.cells ∧ slots + ms ≤ R.slots) (hp : pc + 3 = pc')
    (kk : ∀ (r : Int32) (u : S), post r u → XW p l e R s m args below meth c D cl A H0 nL (F u) (cells + mc) (slots + ms) Q pc' lv (.int r :: rest)) : XW p l e R s m args below meth c D cl A H0 nL ws cells slots Q pc lv st := by
  subst hp
  intro H locs ls hP hD hS hl
  have hFc := xw_free hD hS C.2.2.2.2.2.2
  refine va_calli (vx_runSW (rest := rest) ⟨C.1, C.2.1, C.2.2.1, C.2.2.2.1, C.2.2.2.2.1⟩ (hM H.size) cw ⟨xw_blind hKb, fun U hU hW => ⟨rfl, by rw [hU], by rw [hU]; exact hP, va_K.moved hW.alike C.2.2.2.2.2.1, hD.weaken (fun _ _ _ _ => trivial), hKc H locs U hD hS hU hW⟩⟩ rfl hn hl.1 hst (lv_room hW8) hdg hf) hS (fun q _ h => hFc q h) hFc (fun r u t H1 locs1 ht hvm hpost hB hz1 hk1 hS1 => ?_)
  obtain ⟨hP1, hK1, hD1⟩ := hB
  rw [ht] at hP1
  exact kk r u hpost H1 locs1 ls hP1 (hD1.weaken (fun k q _ h => hFc _ h)) hS1 hl
theorem zg_inW {y : MethodName} {bytes : ByteArray} {maxL : Nat} {ret : Option FieldType} {hh : List (Nat × Nat × Nat × Nat)} {own : String} {index : Nat} (h5 : Cond.codeWith y bytes maxL ret hh ∈ zG) (hl : Cond.methodLink own index y ∈ zG) (hs : Cond.static y ∈ zG) (hini : Cond.initialized y.cls ∈ zG) : GoodIn zG (va_wsS own index y (Cond.codeWith y bytes maxL ret hh :: zG)) := fun w h => by
  have hw : w ∈ zG := by
    simp only [va_wsS, List.mem_append, List.mem_cons, List.not_mem_nil, or_false] at h
    rcases h with h | h | h
    · rcases h with h | h | h <;> (subst h; assumption)
    · subst h; assumption
    · exact h
  exact ⟨hw, good_of_word (zG_good _ hw)⟩
theorem zg_SW (C : xw_C p s m args c cc nL own zG D cl tys A H0) (n : Nat) {index maxL : Nat} {y : MethodName} {bytes : ByteArray} {ret : Option FieldType} {hh : List (Nat × Nat × Nat × Nat)} {rm : Room} (hl : Cond.methodLink own index y ∈ zG) (hs : Cond.static y ∈ zG) (hini : Cond.initialized y.cls ∈ zG) (h5 : Cond.codeWith y bytes maxL ret hh ∈ zG)
    (hd : y.cls ≠ "java/lang/invoke/MethodHandle" ∧ y.cls ≠ "java/lang/invoke/VarHandle" ∧ (parseMethodDescriptor y.desc).map (fun d => d.parameters.length) = some n) (hR : rm.frames + 1 ≤ R.frames ∧ 8 + (maxL + 11) + rm.locals ≤ R.locals) :
    vx_CSW R s args own index y bytes maxL ret hh (Cond.codeWith y bytes maxL ret hh :: zG) rm rm.cells rm.slots n :=
  vx_cwSW n C.2.2.2.2.1 (zg_inW h5 hl hs hini) rfl rfl rfl hd hR
end XCATCH

set_option maxHeartbeats 4000000 in
set_option maxRecDepth 100000 in
theorem c_Lw_load (l : Launch) (hl0 : l.stackTraces = false) (D : va_G) (ca : Nat → ClassId) (ad : Nat → Nat) (M : Nat → Nat → Int32) (sa : Nat → Nat) (md : Nat) (x v : Int32) (hmd : M 0 0 = nI md) (hmb : md ≤ 1) : xw_Mi l y_Lw_load (.codeWith y_Lw_load b_Lw_load 4 (some .int) [(0, 6, 9, 13), (0, 6, 12, 15)] :: zG) { frames := 8, cells := 2, slots := 12, locals := 150 } D zCl (zT ca) [.ref (ad 0), .int x, .int v] (zW ca ad M) (fun U => zKL sa (va_A (zW ca ad M) U.heap.size) U U.heap) 2 12 (zW ca ad) (fun r M' => r = nI 0 ∧ (md = 0 ∧ ∃ j, j < 64 ∧ x = nI j ∧ M' = zst M 11 j v) ∨ r = nI 1 ∧ M' = M ∧ md = 1 ∨ r = nI 2 ∧ M' = M ∧ md = 0 ∧ ¬ (¬ x < 0 ∧ x < nI 64)) := by
  intro sz
  refine xw_metW (cc := b_Lw_load) (maxL := 4) (ret := (some .int)) (by decide) rfl (Nat.le_of_ble_eq_true rfl) (fun p e s m args below meth c hr hlk htab hsz hKs C => ?_)
  rw [hsz] at hKs
  have hKs : zKL sa (va_A (zW ca ad M) sz) s s.heap := hKs
  refine xw_lvE (lv' := [(0, .ref (ad 0)), (1, .int x), (2, .int v)]) rfl ?_
  refine xw_aload_n C 0 d_Lw_load_0 rfl rfl (pc' := 1) rfl ?_
  refine xw_iload_n C 1 d_Lw_load_1 rfl rfl (pc' := 2) rfl ?_
  refine xw_iload_n C 2 d_Lw_load_2 rfl rfl (pc' := 3) rfl ?_
  refine xw_callXVv C (c_Ex_load l hl0 D ca ad M sa md x v hmd hmb) ⟨zg_B C 2 k_232 k_24 k_235 q_Ex_load ⟨by decide, by decide⟩, C.2.2.2.2.1 _ k_233, C.2.2.2.2.1 _ k_234⟩ 0 zr_0 rfl rfl (fun _ _ _ _ h => h.call) (fun _ _ _ hD hS hU hW => hKs.1.at C.2.2.2.2.2.2 hD hS hU hW) rfl rfl (Nat.le_of_ble_eq_true rfl) d_Lw_load_3 ⟨by decide, by decide⟩ (pc' := 6) rfl (fun E u hx => ?_) (fun M1 hp1 => ?_)
  ·
    obtain ⟨hu, hx⟩ := hx
    rw [hu]
    rcases hx with ⟨g1, rfl⟩ | ⟨g1, rfl, g2⟩
    ·
      refine xx_catch C htab [] ⟨0, 6, 9, 13⟩ [⟨0, 6, 12, 15⟩] rfl (fun z hz => absurd hz List.not_mem_nil) (by decide) (by decide) k_230 (zK_cast hKs.1 (by decide)) (fun q9 => ?_)
      refine xw_astore_n C d_Lw_load_9 rfl (by decide) rfl (pc' := 10) rfl ?_
      refine xw_iconst C (v := nI 1) d_Lw_load_10 (by decide) (pc' := 11) rfl ?_
      refine xw_iret C hr hlk (F := zW ca ad) M rfl ?_ d_Lw_load_11
      exact Or.inr (Or.inl ⟨rfl, rfl, g1⟩)
    ·
      refine xx_catch C htab [⟨0, 6, 9, 13⟩] ⟨0, 6, 12, 15⟩ [] rfl (List.forall_mem_cons.mpr ⟨⟨by decide, _, k_230, hKs.2.1⟩, (fun _ h => absurd h List.not_mem_nil)⟩) (by decide) (by decide) k_231 (zK_cast hKs.1 (by decide)) (fun q9 => ?_)
      refine xw_astore_n C d_Lw_load_12 rfl (by decide) rfl (pc' := 13) rfl ?_
      refine xw_iconst C (v := nI 2) d_Lw_load_13 (by decide) (pc' := 14) rfl ?_
      refine xw_iret C hr hlk (F := zW ca ad) M rfl ?_ d_Lw_load_14
      exact Or.inr (Or.inr (⟨rfl, rfl, ⟨g1, g2⟩⟩))
  refine xw_goto C (tgt := 15) d_Lw_load_6 (by decide) ?_
  refine xw_iconst C (v := nI 0) d_Lw_load_15 (by decide) (pc' := 16) rfl ?_
  refine xw_iret C hr hlk (F := zW ca ad) M1 rfl ?_ d_Lw_load_16
  exact Or.inl ⟨rfl, hp1⟩

set_option maxHeartbeats 4000000 in
set_option maxRecDepth 100000 in
theorem c_Lw_entry (l : Launch) (hl0 : l.stackTraces = false) (D : va_G) (ca : Nat → ClassId) (ad : Nat → Nat) (M : Nat → Nat → Int32) (sa : Nat → Nat) (md n : Nat) (x y : Int32) (hmd : M 0 0 = nI md) (hmb : md ≤ 1) (hn : n ≤ 6) (hz : M 1 0 = nI n) : xw_Mi l y_Lw_entry (.codeWith y_Lw_entry b_Lw_entry 4 (some .int) [(0, 6, 9, 13), (0, 6, 12, 15)] :: zG) { frames := 8, cells := 3, slots := 18, locals := 150 } D zCl (zT ca) [.ref (ad 0), .int x, .int y] (zW ca ad M) (fun U => zKL sa (va_A (zW ca ad M) U.heap.size) U U.heap) 3 18 (zW ca ad) (fun r M' => r = nI 0 ∧ (md = 0 ∧ ∃ j k, j < n ∧ k < 64 ∧ x = nI j ∧ y = nI k ∧ M' = zst M (14 + j) 4 (nI k)) ∨ r = nI 1 ∧ M' = M ∧ md = 1 ∨ r = nI 2 ∧ M' = M ∧ md = 0 ∧ ¬ ((¬ x < 0 ∧ x < nI n) ∧ ¬ y < 0 ∧ y < nI 64)) := by
  intro sz
  refine xw_metW (cc := b_Lw_entry) (maxL := 4) (ret := (some .int)) (by decide) rfl (Nat.le_of_ble_eq_true rfl) (fun p e s m args below meth c hr hlk htab hsz hKs C => ?_)
  rw [hsz] at hKs
  have hKs : zKL sa (va_A (zW ca ad M) sz) s s.heap := hKs
  refine xw_lvE (lv' := [(0, .ref (ad 0)), (1, .int x), (2, .int y)]) rfl ?_
  refine xw_aload_n C 0 d_Lw_entry_0 rfl rfl (pc' := 1) rfl ?_
  refine xw_iload_n C 1 d_Lw_entry_1 rfl rfl (pc' := 2) rfl ?_
  refine xw_iload_n C 2 d_Lw_entry_2 rfl rfl (pc' := 3) rfl ?_
  refine xw_callXVv C (c_Ex_entry l hl0 D ca ad M sa md n x y hmd hmb hn hz) ⟨zg_B C 2 k_369 k_24 k_372 q_Ex_entry ⟨by decide, by decide⟩, C.2.2.2.2.1 _ k_370, C.2.2.2.2.1 _ k_371⟩ 0 zr_0 rfl rfl (fun _ _ _ _ h => h.call) (fun _ _ _ hD hS hU hW => hKs.1.at C.2.2.2.2.2.2 hD hS hU hW) rfl rfl (Nat.le_of_ble_eq_true rfl) d_Lw_entry_3 ⟨by decide, by decide⟩ (pc' := 6) rfl (fun E u hx => ?_) (fun M1 hp1 => ?_)
  ·
    obtain ⟨hu, hx⟩ := hx
    rw [hu]
    rcases hx with ⟨g1, rfl⟩ | ⟨g1, rfl, g2⟩
    ·
      refine xx_catch C htab [] ⟨0, 6, 9, 13⟩ [⟨0, 6, 12, 15⟩] rfl (fun z hz => absurd hz List.not_mem_nil) (by decide) (by decide) k_230 (zK_cast hKs.1 (by decide)) (fun q9 => ?_)
      refine xw_astore_n C d_Lw_entry_9 rfl (by decide) rfl (pc' := 10) rfl ?_
      refine xw_iconst C (v := nI 1) d_Lw_entry_10 (by decide) (pc' := 11) rfl ?_
      refine xw_iret C hr hlk (F := zW ca ad) M rfl ?_ d_Lw_entry_11
      exact Or.inr (Or.inl ⟨rfl, rfl, g1⟩)
    ·
      refine xx_catch C htab [⟨0, 6, 9, 13⟩] ⟨0, 6, 12, 15⟩ [] rfl (List.forall_mem_cons.mpr ⟨⟨by decide, _, k_230, hKs.2.1⟩, (fun _ h => absurd h List.not_mem_nil)⟩) (by decide) (by decide) k_231 (zK_cast hKs.1 (by decide)) (fun q9 => ?_)
      refine xw_astore_n C d_Lw_entry_12 rfl (by decide) rfl (pc' := 13) rfl ?_
      refine xw_iconst C (v := nI 2) d_Lw_entry_13 (by decide) (pc' := 14) rfl ?_
      refine xw_iret C hr hlk (F := zW ca ad) M rfl ?_ d_Lw_entry_14
      exact Or.inr (Or.inr (⟨rfl, rfl, ⟨g1, g2⟩⟩))
  refine xw_goto C (tgt := 15) d_Lw_entry_6 (by decide) ?_
  refine xw_iconst C (v := nI 0) d_Lw_entry_15 (by decide) (pc' := 16) rfl ?_
  refine xw_iret C hr hlk (F := zW ca ad) M1 rfl ?_ d_Lw_entry_16
  exact Or.inl ⟨rfl, hp1⟩

set_option maxHeartbeats 4000000 in
set_option maxRecDepth 100000 in
theorem c_Lw_clear (l : Launch) (hl0 : l.stackTraces = false) (D : va_G) (ca : Nat → ClassId) (ad : Nat → Nat) (M : Nat → Nat → Int32) (sa : Nat → Nat) (md : Nat) (hmd : M 0 0 = nI md) (hmb : md ≤ 1) : xw_Mi l y_Lw_clear (.codeWith y_Lw_clear b_Lw_clear 2 (some .int) [(0, 4, 7, 13)] :: zG) { frames := 8, cells := 1, slots := 6, locals := 150 } D zCl (zT ca) [.ref (ad 0)] (zW ca ad M) (fun U => zKL sa (va_A (zW ca ad M) U.heap.size) U U.heap) 1 6 (zW ca ad) (fun r M' => r = nI 0 ∧ (md = 0 ∧ M' = zst (zst M 1 0 (nI 0)) 3 0 (nI 0)) ∨ r = nI 1 ∧ M' = M ∧ md = 1) := by
  intro sz
  refine xw_metW (cc := b_Lw_clear) (maxL := 2) (ret := (some .int)) (by decide) rfl (Nat.le_of_ble_eq_true rfl) (fun p e s m args below meth c hr hlk htab hsz hKs C => ?_)
  rw [hsz] at hKs
  have hKs : zKL sa (va_A (zW ca ad M) sz) s s.heap := hKs
  refine xw_lvE (lv' := [(0, .ref (ad 0))]) rfl ?_
  refine xw_aload_n C 0 d_Lw_clear_0 rfl rfl (pc' := 1) rfl ?_
  refine xw_callXVv C (c_Ex_clear l hl0 D ca ad M sa md hmd hmb) ⟨zg_B C 0 k_376 k_24 k_379 q_Ex_clear ⟨by decide, by decide⟩, C.2.2.2.2.1 _ k_377, C.2.2.2.2.1 _ k_378⟩ 0 zr_0 rfl rfl (fun _ _ _ _ h => h.call) (fun _ _ _ hD hS hU hW => hKs.1.at C.2.2.2.2.2.2 hD hS hU hW) rfl rfl (Nat.le_of_ble_eq_true rfl) d_Lw_clear_1 ⟨by decide, by decide⟩ (pc' := 4) rfl (fun E u hx => ?_) (fun M1 hp1 => ?_)
  ·
    obtain ⟨hu, hx⟩ := hx
    rw [hu]
    rcases hx with ⟨g1, rfl⟩ | hf
    ·
      refine xx_catch C htab [] ⟨0, 4, 7, 13⟩ [] rfl (fun z hz => absurd hz List.not_mem_nil) (by decide) (by decide) k_230 (zK_cast hKs.1 (by decide)) (fun q9 => ?_)
      refine xw_astore_n C d_Lw_clear_7 rfl (by decide) rfl (pc' := 8) rfl ?_
      refine xw_iconst C (v := nI 1) d_Lw_clear_8 (by decide) (pc' := 9) rfl ?_
      refine xw_iret C hr hlk (F := zW ca ad) M rfl ?_ d_Lw_clear_9
      exact Or.inr (⟨rfl, rfl, g1⟩)
    · exact hf.elim
  refine xw_goto C (tgt := 10) d_Lw_clear_4 (by decide) ?_
  refine xw_iconst C (v := nI 0) d_Lw_clear_10 (by decide) (pc' := 11) rfl ?_
  refine xw_iret C hr hlk (F := zW ca ad) M1 rfl ?_ d_Lw_clear_11
  exact Or.inl ⟨rfl, hp1⟩

set_option maxHeartbeats 4000000 in
set_option maxRecDepth 100000 in
theorem c_Lw_stop (l : Launch) (hl0 : l.stackTraces = false) (D : va_G) (ca : Nat → ClassId) (ad : Nat → Nat) (M : Nat → Nat → Int32) (sa : Nat → Nat) (md : Nat) (hmd : M 0 0 = nI md) (hmb : md ≤ 1) : xw_Mi l y_Lw_stop (.codeWith y_Lw_stop b_Lw_stop 2 (some .int) [(0, 4, 7, 13)] :: zG) { frames := 8, cells := 1, slots := 6, locals := 150 } D zCl (zT ca) [.ref (ad 0)] (zW ca ad M) (fun U => zKL sa (va_A (zW ca ad M) U.heap.size) U U.heap) 1 6 (zW ca ad) (fun r M' => r = nI 0 ∧ (md = 1 ∧ M' = zst M 0 0 (nI 0)) ∨ r = nI 1 ∧ M' = M ∧ md = 0) := by
  intro sz
  refine xw_metW (cc := b_Lw_stop) (maxL := 2) (ret := (some .int)) (by decide) rfl (Nat.le_of_ble_eq_true rfl) (fun p e s m args below meth c hr hlk htab hsz hKs C => ?_)
  rw [hsz] at hKs
  have hKs : zKL sa (va_A (zW ca ad M) sz) s s.heap := hKs
  refine xw_lvE (lv' := [(0, .ref (ad 0))]) rfl ?_
  refine xw_aload_n C 0 d_Lw_stop_0 rfl rfl (pc' := 1) rfl ?_
  refine xw_callXVv C (c_Ex_stop l hl0 D ca ad M sa md hmd hmb) ⟨zg_B C 0 k_490 k_24 k_493 q_Ex_stop ⟨by decide, by decide⟩, C.2.2.2.2.1 _ k_491, C.2.2.2.2.1 _ k_492⟩ 0 zr_0 rfl rfl (fun _ _ _ _ h => h.call) (fun _ _ _ hD hS hU hW => hKs.1.at C.2.2.2.2.2.2 hD hS hU hW) rfl rfl (Nat.le_of_ble_eq_true rfl) d_Lw_stop_1 ⟨by decide, by decide⟩ (pc' := 4) rfl (fun E u hx => ?_) (fun M1 hp1 => ?_)
  ·
    obtain ⟨hu, hx⟩ := hx
    rw [hu]
    rcases hx with ⟨g1, rfl⟩ | hf
    ·
      refine xx_catch C htab [] ⟨0, 4, 7, 13⟩ [] rfl (fun z hz => absurd hz List.not_mem_nil) (by decide) (by decide) k_230 (zK_cast hKs.1 (by decide)) (fun q9 => ?_)
      refine xw_astore_n C d_Lw_stop_7 rfl (by decide) rfl (pc' := 8) rfl ?_
      refine xw_iconst C (v := nI 1) d_Lw_stop_8 (by decide) (pc' := 9) rfl ?_
      refine xw_iret C hr hlk (F := zW ca ad) M rfl ?_ d_Lw_stop_9
      exact Or.inr (⟨rfl, rfl, g1⟩)
    · exact hf.elim
  refine xw_goto C (tgt := 10) d_Lw_stop_4 (by decide) ?_
  refine xw_iconst C (v := nI 0) d_Lw_stop_10 (by decide) (pc' := 11) rfl ?_
  refine xw_iret C hr hlk (F := zW ca ad) M1 rfl ?_ d_Lw_stop_11
  exact Or.inl ⟨rfl, hp1⟩

set_option maxHeartbeats 4000000 in
set_option maxRecDepth 100000 in
theorem c_Lw_drop (l : Launch) (hl0 : l.stackTraces = false) (D : va_G) (ca : Nat → ClassId) (ad : Nat → Nat) (M : Nat → Nat → Int32) (sa : Nat → Nat) (md k : Nat) (hmd : M 0 0 = nI md) (hmb : md ≤ 1) (hk : k ≤ 60) (hz3 : M 3 0 = nI k) : xw_Mi l y_Lw_drop (.codeWith y_Lw_drop b_Lw_drop 2 (some .int) [(0, 4, 7, 13)] :: zG) { frames := 8, cells := 2, slots := 12, locals := 150 } D zCl (zT ca) [.ref (ad 0)] (zW ca ad M) (fun U => zKL sa (va_A (zW ca ad M) U.heap.size) U U.heap) 2 12 (zW ca ad) (fun r M' => r = nI 0 ∧ (md = 0 ∧ 0 < k ∧ M' = zst M 3 0 (nI (k - 1))) ∨ r = nI 1 ∧ M' = M ∧ ((md = 1) ∨ (md = 0 ∧ k = 0))) := by
  intro sz
  refine xw_metW (cc := b_Lw_drop) (maxL := 2) (ret := (some .int)) (by decide) rfl (Nat.le_of_ble_eq_true rfl) (fun p e s m args below meth c hr hlk htab hsz hKs C => ?_)
  rw [hsz] at hKs
  have hKs : zKL sa (va_A (zW ca ad M) sz) s s.heap := hKs
  refine xw_lvE (lv' := [(0, .ref (ad 0))]) rfl ?_
  refine xw_aload_n C 0 d_Lw_drop_0 rfl rfl (pc' := 1) rfl ?_
  refine xw_callXVv C (c_Ex_drop l hl0 D ca ad M sa md k hmd hmb hk hz3) ⟨zg_B C 0 k_442 k_24 k_445 q_Ex_drop ⟨by decide, by decide⟩, C.2.2.2.2.1 _ k_443, C.2.2.2.2.1 _ k_444⟩ 0 zr_0 rfl rfl (fun _ _ _ _ h => h.call) (fun _ _ _ hD hS hU hW => hKs.1.at C.2.2.2.2.2.2 hD hS hU hW) rfl rfl (Nat.le_of_ble_eq_true rfl) d_Lw_drop_1 ⟨by decide, by decide⟩ (pc' := 4) rfl (fun E u hx => ?_) (fun M1 hp1 => ?_)
  ·
    obtain ⟨hu, hx⟩ := hx
    rw [hu]
    rcases hx with ⟨g1, rfl⟩ | ⟨g1, g2, rfl⟩
    ·
      refine xx_catch C htab [] ⟨0, 4, 7, 13⟩ [] rfl (fun z hz => absurd hz List.not_mem_nil) (by decide) (by decide) k_230 (zK_cast hKs.1 (by decide)) (fun q9 => ?_)
      refine xw_astore_n C d_Lw_drop_7 rfl (by decide) rfl (pc' := 8) rfl ?_
      refine xw_iconst C (v := nI 1) d_Lw_drop_8 (by decide) (pc' := 9) rfl ?_
      refine xw_iret C hr hlk (F := zW ca ad) M rfl ?_ d_Lw_drop_9
      exact Or.inr (⟨rfl, rfl, Or.inl g1⟩)
    ·
      refine xx_catch C htab [] ⟨0, 4, 7, 13⟩ [] rfl (fun z hz => absurd hz List.not_mem_nil) (by decide) (by decide) k_230 (zK_cast hKs.1 (by decide)) (fun q9 => ?_)
      refine xw_astore_n C d_Lw_drop_7 rfl (by decide) rfl (pc' := 8) rfl ?_
      refine xw_iconst C (v := nI 1) d_Lw_drop_8 (by decide) (pc' := 9) rfl ?_
      refine xw_iret C hr hlk (F := zW ca ad) M rfl ?_ d_Lw_drop_9
      exact Or.inr (⟨rfl, rfl, Or.inr (⟨g1, g2⟩)⟩)
  refine xw_goto C (tgt := 10) d_Lw_drop_4 (by decide) ?_
  refine xw_iconst C (v := nI 0) d_Lw_drop_10 (by decide) (pc' := 11) rfl ?_
  refine xw_iret C hr hlk (F := zW ca ad) M1 rfl ?_ d_Lw_drop_11
  exact Or.inl ⟨rfl, hp1⟩

set_option maxHeartbeats 4000000 in
set_option maxRecDepth 100000 in
theorem c_Lw_slot (l : Launch) (hl0 : l.stackTraces = false) (D : va_G) (ca : Nat → ClassId) (ad : Nat → Nat) (M : Nat → Nat → Int32) (sa : Nat → Nat) (md n k : Nat) (x a b z : Int32) (hmd : M 0 0 = nI md) (hmb : md ≤ 1) (hn : n ≤ 6) (hz : M 1 0 = nI n) (hk : k ≤ 60) (hz3 : M 3 0 = nI k) : xw_Mi l y_Lw_slot (.codeWith y_Lw_slot b_Lw_slot 6 (some .int) [(0, 9, 12, 13), (0, 9, 16, 15), (0, 9, 20, 21)] :: zG) { frames := 8, cells := 4, slots := 24, locals := 150 } D zCl (zT ca) [.ref (ad 0), .int x, .int a, .int b, .int z] (zW ca ad M) (fun U => zKL sa (va_A (zW ca ad M) U.heap.size) U U.heap) 4 24 (zW ca ad) (fun r M' => r = nI 0 ∧ (md = 0 ∧ ∃ i q1 q2 t, i ≤ k ∧ i < 60 ∧ q1 < 240 ∧ 1 ≤ q2 ∧ q2 ≤ 240 ∧ t < n ∧ x = nI i ∧ a = nI q1 ∧ b = nI q2 ∧ z = nI t ∧ M' = zPut M i k a b z) ∨ r = nI 1 ∧ M' = M ∧ md = 1 ∨ r = nI 2 ∧ M' = M ∧ md = 0 ∧ ¬ ((¬ x < 0 ∧ (x < nI (k + 1) ∧ x < nI 60)) ∧ ¬ z < 0 ∧ z < nI n) ∨ r = nI 3 ∧ M' = M ∧ md = 0 ∧ ((¬ x < 0 ∧ (x < nI (k + 1) ∧ x < nI 60)) ∧ ¬ z < 0 ∧ z < nI n) ∧ ¬ (¬ a < 0 ∧ a < nI 240 ∧ ¬ b < nI 1 ∧ ¬ nI 240 < b)) := by
  intro sz
  refine xw_metW (cc := b_Lw_slot) (maxL := 6) (ret := (some .int)) (by decide) rfl (Nat.le_of_ble_eq_true rfl) (fun p e s m args below meth c hr hlk htab hsz hKs C => ?_)
  rw [hsz] at hKs
  have hKs : zKL sa (va_A (zW ca ad M) sz) s s.heap := hKs
  refine xw_lvE (lv' := [(0, .ref (ad 0)), (1, .int x), (2, .int a), (3, .int b), (4, .int z)]) rfl ?_
  refine xw_aload_n C 0 d_Lw_slot_0 rfl rfl (pc' := 1) rfl ?_
  refine xw_iload_n C 1 d_Lw_slot_1 rfl rfl (pc' := 2) rfl ?_
  refine xw_iload_n C 2 d_Lw_slot_2 rfl rfl (pc' := 3) rfl ?_
  refine xw_iload_n C 3 d_Lw_slot_3 rfl rfl (pc' := 4) rfl ?_
  refine xw_iload C 4 d_Lw_slot_4 rfl (pc' := 6) rfl ?_
  refine xw_callXVv C (c_Ex_slot l hl0 D ca ad M sa md n k x a b z hmd hmb hn hz hk hz3) ⟨zg_B C 4 k_430 k_24 k_433 q_Ex_slot ⟨by decide, by decide⟩, C.2.2.2.2.1 _ k_431, C.2.2.2.2.1 _ k_432⟩ 0 zr_0 rfl rfl (fun _ _ _ _ h => h.call) (fun _ _ _ hD hS hU hW => hKs.1.at C.2.2.2.2.2.2 hD hS hU hW) rfl rfl (Nat.le_of_ble_eq_true rfl) d_Lw_slot_6 ⟨by decide, by decide⟩ (pc' := 9) rfl (fun E u hx => ?_) (fun M1 hp1 => ?_)
  ·
    obtain ⟨hu, hx⟩ := hx
    rw [hu]
    rcases hx with ⟨g1, rfl⟩ | ⟨g1, ⟨rfl, g2⟩ | ⟨rfl, g2, g3⟩⟩
    ·
      refine xx_catch C htab [] ⟨0, 9, 12, 13⟩ [⟨0, 9, 16, 15⟩, ⟨0, 9, 20, 21⟩] rfl (fun z hz => absurd hz List.not_mem_nil) (by decide) (by decide) k_230 (zK_cast hKs.1 (by decide)) (fun q9 => ?_)
      refine xw_astore C d_Lw_slot_12 (by decide) rfl (pc' := 14) rfl ?_
      refine xw_iconst C (v := nI 1) d_Lw_slot_14 (by decide) (pc' := 15) rfl ?_
      refine xw_iret C hr hlk (F := zW ca ad) M rfl ?_ d_Lw_slot_15
      exact Or.inr (Or.inl ⟨rfl, rfl, g1⟩)
    ·
      refine xx_catch C htab [⟨0, 9, 12, 13⟩] ⟨0, 9, 16, 15⟩ [⟨0, 9, 20, 21⟩] rfl (List.forall_mem_cons.mpr ⟨⟨by decide, _, k_230, hKs.2.1⟩, (fun _ h => absurd h List.not_mem_nil)⟩) (by decide) (by decide) k_231 (zK_cast hKs.1 (by decide)) (fun q9 => ?_)
      refine xw_astore C d_Lw_slot_16 (by decide) rfl (pc' := 18) rfl ?_
      refine xw_iconst C (v := nI 2) d_Lw_slot_18 (by decide) (pc' := 19) rfl ?_
      refine xw_iret C hr hlk (F := zW ca ad) M rfl ?_ d_Lw_slot_19
      exact Or.inr (Or.inr (Or.inl ⟨rfl, rfl, ⟨g1, g2⟩⟩))
    ·
      refine xx_catch C htab [⟨0, 9, 12, 13⟩, ⟨0, 9, 16, 15⟩] ⟨0, 9, 20, 21⟩ [] rfl (List.forall_mem_cons.mpr ⟨⟨by decide, _, k_230, hKs.2.2.1⟩, (List.forall_mem_cons.mpr ⟨⟨by decide, _, k_231, hKs.2.2.2⟩, (fun _ h => absurd h List.not_mem_nil)⟩)⟩) (by decide) (by decide) k_330 (zK_cast hKs.1 (by decide)) (fun q9 => ?_)
      refine xw_astore C d_Lw_slot_20 (by decide) rfl (pc' := 22) rfl ?_
      refine xw_iconst C (v := nI 3) d_Lw_slot_22 (by decide) (pc' := 23) rfl ?_
      refine xw_iret C hr hlk (F := zW ca ad) M rfl ?_ d_Lw_slot_23
      exact Or.inr (Or.inr (Or.inr (⟨rfl, rfl, ⟨g1, g2, g3⟩⟩)))
  refine xw_goto C (tgt := 24) d_Lw_slot_9 (by decide) ?_
  refine xw_iconst C (v := nI 0) d_Lw_slot_24 (by decide) (pc' := 25) rfl ?_
  refine xw_iret C hr hlk (F := zW ca ad) M1 rfl ?_ d_Lw_slot_25
  exact Or.inl ⟨rfl, hp1⟩

set_option maxHeartbeats 4000000 in
set_option maxRecDepth 100000 in
theorem c_Lw_task (l : Launch) (hl0 : l.stackTraces = false) (D : va_G) (ca : Nat → ClassId) (ad : Nat → Nat) (M : Nat → Nat → Int32) (sa : Nat → Nat) (md n : Nat) (x y z o : Int32) (hmd : M 0 0 = nI md) (hmb : md ≤ 1) (hn : n ≤ 6) (hz : M 1 0 = nI n) : xw_Mi l y_Lw_task (.codeWith y_Lw_task b_Lw_task 7 (some .int) [(0, 14, 17, 13), (0, 14, 21, 21)] :: zG) { frames := 8, cells := 2, slots := 12, locals := 150 } D zCl (zT ca) [.ref (ad 0), .int x, .int y, .int z, .int o, .ref (ad 56)] (zW ca ad M) (fun U => zKL sa (va_A (zW ca ad M) U.heap.size) U U.heap) 2 12 (zW ca ad) (fun r M' => r = nI 0 ∧ (∃ v M1, (md = 0 ∧ n < 6 ∧ sp_isT x y z o ∧ M1 = zApp M n x y z o ∧ v = nI n) ∧ M' = zst M1 56 0 v) ∨ r = nI 1 ∧ M' = M ∧ ((md = 1) ∨ (md = 0 ∧ n = 6)) ∨ r = nI 2 ∧ M' = M ∧ md = 0 ∧ n < 6 ∧ ¬ sp_isT x y z o) := by
  intro sz
  refine xw_metW (cc := b_Lw_task) (maxL := 7) (ret := (some .int)) (by decide) rfl (Nat.le_of_ble_eq_true rfl) (fun p e s m args below meth c hr hlk htab hsz hKs C => ?_)
  rw [hsz] at hKs
  have hKs : zKL sa (va_A (zW ca ad M) sz) s s.heap := hKs
  refine xw_lvE (lv' := [(0, .ref (ad 0)), (1, .int x), (2, .int y), (3, .int z), (4, .int o), (5, .ref (ad 56))]) rfl ?_
  refine xw_aload C 5 d_Lw_task_0 rfl (pc' := 2) rfl ?_
  refine xw_iconst C (v := nI 0) d_Lw_task_2 (by decide) (pc' := 3) rfl ?_
  refine xw_aload_n C 0 d_Lw_task_3 rfl rfl (pc' := 4) rfl ?_
  refine xw_iload_n C 1 d_Lw_task_4 rfl rfl (pc' := 5) rfl ?_
  refine xw_iload_n C 2 d_Lw_task_5 rfl rfl (pc' := 6) rfl ?_
  refine xw_iload_n C 3 d_Lw_task_6 rfl rfl (pc' := 7) rfl ?_
  refine xw_iload C 4 d_Lw_task_7 rfl (pc' := 9) rfl ?_
  refine xw_callXVi C (c_Ex_task l hl0 D ca ad M sa md n x y z o hmd hmb hn hz) ⟨zg_B C 4 k_331 k_24 k_334 q_Ex_task ⟨by decide, by decide⟩, C.2.2.2.2.1 _ k_332, C.2.2.2.2.1 _ k_333⟩ 0 zr_0 rfl rfl (fun _ _ _ _ h => h.call) (fun _ _ _ hD hS hU hW => hKs.1.at C.2.2.2.2.2.2 hD hS hU hW) rfl rfl (Nat.le_of_ble_eq_true rfl) d_Lw_task_9 ⟨by decide, by decide⟩ (pc' := 12) rfl (fun E u hx => ?_) (fun r1 M1 hp1 => ?_)
  ·
    obtain ⟨hu, hx⟩ := hx
    rw [hu]
    rcases hx with ⟨g1, rfl⟩ | ⟨g1, g2, rfl⟩ | ⟨g1, g2, g3, rfl⟩
    ·
      refine xx_catch C htab [] ⟨0, 14, 17, 13⟩ [⟨0, 14, 21, 21⟩] rfl (fun z hz => absurd hz List.not_mem_nil) (by decide) (by decide) k_230 (zK_cast hKs.1 (by decide)) (fun q9 => ?_)
      refine xw_astore C d_Lw_task_17 (by decide) rfl (pc' := 19) rfl ?_
      refine xw_iconst C (v := nI 1) d_Lw_task_19 (by decide) (pc' := 20) rfl ?_
      refine xw_iret C hr hlk (F := zW ca ad) M rfl ?_ d_Lw_task_20
      exact Or.inr (Or.inl ⟨rfl, rfl, Or.inl g1⟩)
    ·
      refine xx_catch C htab [] ⟨0, 14, 17, 13⟩ [⟨0, 14, 21, 21⟩] rfl (fun z hz => absurd hz List.not_mem_nil) (by decide) (by decide) k_230 (zK_cast hKs.1 (by decide)) (fun q9 => ?_)
      refine xw_astore C d_Lw_task_17 (by decide) rfl (pc' := 19) rfl ?_
      refine xw_iconst C (v := nI 1) d_Lw_task_19 (by decide) (pc' := 20) rfl ?_
      refine xw_iret C hr hlk (F := zW ca ad) M rfl ?_ d_Lw_task_20
      exact Or.inr (Or.inl ⟨rfl, rfl, Or.inr (⟨g1, g2⟩)⟩)
    ·
      refine xx_catch C htab [⟨0, 14, 17, 13⟩] ⟨0, 14, 21, 21⟩ [] rfl (List.forall_mem_cons.mpr ⟨⟨by decide, _, k_230, hKs.2.2.1⟩, (fun _ h => absurd h List.not_mem_nil)⟩) (by decide) (by decide) k_330 (zK_cast hKs.1 (by decide)) (fun q9 => ?_)
      refine xw_astore C d_Lw_task_21 (by decide) rfl (pc' := 23) rfl ?_
      refine xw_iconst C (v := nI 2) d_Lw_task_23 (by decide) (pc' := 24) rfl ?_
      refine xw_iret C hr hlk (F := zW ca ad) M rfl ?_ d_Lw_task_24
      exact Or.inr (Or.inr (⟨rfl, rfl, ⟨g1, g2, g3⟩⟩))
  refine xw_i2l C d_Lw_task_12 rfl (pc' := 13) rfl ?_
  obtain ⟨M21, hM21⟩ : ∃ zq, zq = zst M1 56 0 r1 := ⟨_, rfl⟩
  refine xw_last C 56 3 zr_56 rfl 0 rfl (by omega) (by decide) (ws' := zW ca ad M21) (by rw [hM21]; exact zs_56 _ _) d_Lw_task_13 (pc' := 14) rfl ?_
  refine xw_goto C (tgt := 25) d_Lw_task_14 (by decide) ?_
  refine xw_iconst C (v := nI 0) d_Lw_task_25 (by decide) (pc' := 26) rfl ?_
  refine xw_iret C hr hlk (F := zW ca ad) M21 rfl ?_ d_Lw_task_26
  exact Or.inl ⟨rfl, r1, M1, hp1, hM21⟩

set_option maxHeartbeats 4000000 in
set_option maxRecDepth 100000 in
theorem c_Lw_slotOf (l : Launch) (hl0 : l.stackTraces = false) (D : va_G) (ca : Nat → ClassId) (ad : Nat → Nat) (M : Nat → Nat → Int32) (sa : Nat → Nat) (k : Nat) (x y : Int32) (hk : k ≤ 60) (hz3 : M 3 0 = nI k) : xw_Mi l y_Lw_slotOf (.codeWith y_Lw_slotOf b_Lw_slotOf 5 (some .int) [(0, 10, 13, 15)] :: zG) { frames := 8, cells := 2, slots := 12, locals := 150 } D zCl (zT ca) [.ref (ad 0), .int x, .int y, .ref (ad 56)] (zW ca ad M) (fun U => zKL sa (va_A (zW ca ad M) U.heap.size) U U.heap) 2 12 (zW ca ad) (fun r M' => r = nI 0 ∧ (∃ v M1, (M1 = M ∧ ∃ i w, i < k ∧ w < 3 ∧ x = nI i ∧ y = nI w ∧ v = if w = 0 then M 4 i else if w = 1 then M 5 i else M 6 i) ∧ M' = zst M1 56 0 v) ∨ r = nI 1 ∧ M' = M ∧ ¬ ((¬ x < 0 ∧ x < nI k) ∧ ¬ y < 0 ∧ y < nI 3)) := by
  intro sz
  refine xw_metW (cc := b_Lw_slotOf) (maxL := 5) (ret := (some .int)) (by decide) rfl (Nat.le_of_ble_eq_true rfl) (fun p e s m args below meth c hr hlk htab hsz hKs C => ?_)
  rw [hsz] at hKs
  have hKs : zKL sa (va_A (zW ca ad M) sz) s s.heap := hKs
  refine xw_lvE (lv' := [(0, .ref (ad 0)), (1, .int x), (2, .int y), (3, .ref (ad 56))]) rfl ?_
  refine xw_aload_n C 3 d_Lw_slotOf_0 rfl rfl (pc' := 1) rfl ?_
  refine xw_iconst C (v := nI 0) d_Lw_slotOf_1 (by decide) (pc' := 2) rfl ?_
  refine xw_aload_n C 0 d_Lw_slotOf_2 rfl rfl (pc' := 3) rfl ?_
  refine xw_iload_n C 1 d_Lw_slotOf_3 rfl rfl (pc' := 4) rfl ?_
  refine xw_iload_n C 2 d_Lw_slotOf_4 rfl rfl (pc' := 5) rfl ?_
  refine xw_callXVi C (c_Ex_slotOf l hl0 D ca ad M sa k x y hk hz3) ⟨zg_B C 2 k_450 k_24 k_453 q_Ex_slotOf ⟨by decide, by decide⟩, C.2.2.2.2.1 _ k_451, C.2.2.2.2.1 _ k_452⟩ 0 zr_0 rfl rfl (fun _ _ _ _ h => h.call) (fun _ _ _ hD hS hU hW => hKs.1.at C.2.2.2.2.2.2 hD hS hU hW) rfl rfl (Nat.le_of_ble_eq_true rfl) d_Lw_slotOf_5 ⟨by decide, by decide⟩ (pc' := 8) rfl (fun E u hx => ?_) (fun r1 M1 hp1 => ?_)
  ·
    obtain ⟨hu, hx⟩ := hx
    rw [hu]
    rcases hx with ⟨rfl, g1⟩
    ·
      refine xx_catch C htab [] ⟨0, 10, 13, 15⟩ [] rfl (fun z hz => absurd hz List.not_mem_nil) (by decide) (by decide) k_231 (zK_cast hKs.1 (by decide)) (fun q9 => ?_)
      refine xw_astore C d_Lw_slotOf_13 (by decide) rfl (pc' := 15) rfl ?_
      refine xw_iconst C (v := nI 1) d_Lw_slotOf_15 (by decide) (pc' := 16) rfl ?_
      refine xw_iret C hr hlk (F := zW ca ad) M rfl ?_ d_Lw_slotOf_16
      exact Or.inr (⟨rfl, rfl, g1⟩)
  refine xw_i2l C d_Lw_slotOf_8 rfl (pc' := 9) rfl ?_
  obtain ⟨M21, hM21⟩ : ∃ zq, zq = zst M1 56 0 r1 := ⟨_, rfl⟩
  refine xw_last C 56 3 zr_56 rfl 0 rfl (by omega) (by decide) (ws' := zW ca ad M21) (by rw [hM21]; exact zs_56 _ _) d_Lw_slotOf_9 (pc' := 10) rfl ?_
  refine xw_goto C (tgt := 17) d_Lw_slotOf_10 (by decide) ?_
  refine xw_iconst C (v := nI 0) d_Lw_slotOf_17 (by decide) (pc' := 18) rfl ?_
  refine xw_iret C hr hlk (F := zW ca ad) M21 rfl ?_ d_Lw_slotOf_18
  exact Or.inl ⟨rfl, r1, M1, hp1, hM21⟩

set_option maxHeartbeats 4000000 in
set_option maxRecDepth 100000 in
theorem c_Lw_count (l : Launch) (hl0 : l.stackTraces = false) (D : va_G) (ca : Nat → ClassId) (ad : Nat → Nat) (M : Nat → Nat → Int32) (sa : Nat → Nat) (n : Nat) (x y : Int32) (hn : n ≤ 6) (hz : M 1 0 = nI n) : xw_Mi l y_Lw_count (.codeWith y_Lw_count b_Lw_count 5 (some .int) [(0, 10, 13, 15)] :: zG) { frames := 8, cells := 2, slots := 12, locals := 150 } D zCl (zT ca) [.ref (ad 0), .int x, .int y, .ref (ad 56)] (zW ca ad M) (fun U => zKL sa (va_A (zW ca ad M) U.heap.size) U U.heap) 2 12 (zW ca ad) (fun r M' => r = nI 0 ∧ (∃ v M1, (M1 = M ∧ ∃ i w, i < n ∧ w < 4 ∧ x = nI i ∧ y = nI w ∧ v = M (32 + i) w) ∧ M' = zst M1 56 0 v) ∨ r = nI 1 ∧ M' = M ∧ ¬ ((¬ x < 0 ∧ x < nI n) ∧ ¬ y < 0 ∧ y < nI 4)) := by
  intro sz
  refine xw_metW (cc := b_Lw_count) (maxL := 5) (ret := (some .int)) (by decide) rfl (Nat.le_of_ble_eq_true rfl) (fun p e s m args below meth c hr hlk htab hsz hKs C => ?_)
  rw [hsz] at hKs
  have hKs : zKL sa (va_A (zW ca ad M) sz) s s.heap := hKs
  refine xw_lvE (lv' := [(0, .ref (ad 0)), (1, .int x), (2, .int y), (3, .ref (ad 56))]) rfl ?_
  refine xw_aload_n C 3 d_Lw_count_0 rfl rfl (pc' := 1) rfl ?_
  refine xw_iconst C (v := nI 0) d_Lw_count_1 (by decide) (pc' := 2) rfl ?_
  refine xw_aload_n C 0 d_Lw_count_2 rfl rfl (pc' := 3) rfl ?_
  refine xw_iload_n C 1 d_Lw_count_3 rfl rfl (pc' := 4) rfl ?_
  refine xw_iload_n C 2 d_Lw_count_4 rfl rfl (pc' := 5) rfl ?_
  refine xw_callXVi C (c_Ex_count l hl0 D ca ad M sa n x y hn hz) ⟨zg_B C 2 k_553 k_24 k_556 q_Ex_count ⟨by decide, by decide⟩, C.2.2.2.2.1 _ k_554, C.2.2.2.2.1 _ k_555⟩ 0 zr_0 rfl rfl (fun _ _ _ _ h => h.call) (fun _ _ _ hD hS hU hW => hKs.1.at C.2.2.2.2.2.2 hD hS hU hW) rfl rfl (Nat.le_of_ble_eq_true rfl) d_Lw_count_5 ⟨by decide, by decide⟩ (pc' := 8) rfl (fun E u hx => ?_) (fun r1 M1 hp1 => ?_)
  ·
    obtain ⟨hu, hx⟩ := hx
    rw [hu]
    rcases hx with ⟨rfl, g1⟩
    ·
      refine xx_catch C htab [] ⟨0, 10, 13, 15⟩ [] rfl (fun z hz => absurd hz List.not_mem_nil) (by decide) (by decide) k_231 (zK_cast hKs.1 (by decide)) (fun q9 => ?_)
      refine xw_astore C d_Lw_count_13 (by decide) rfl (pc' := 15) rfl ?_
      refine xw_iconst C (v := nI 1) d_Lw_count_15 (by decide) (pc' := 16) rfl ?_
      refine xw_iret C hr hlk (F := zW ca ad) M rfl ?_ d_Lw_count_16
      exact Or.inr (⟨rfl, rfl, g1⟩)
  refine xw_i2l C d_Lw_count_8 rfl (pc' := 9) rfl ?_
  obtain ⟨M21, hM21⟩ : ∃ zq, zq = zst M1 56 0 r1 := ⟨_, rfl⟩
  refine xw_last C 56 3 zr_56 rfl 0 rfl (by omega) (by decide) (ws' := zW ca ad M21) (by rw [hM21]; exact zs_56 _ _) d_Lw_count_9 (pc' := 10) rfl ?_
  refine xw_goto C (tgt := 17) d_Lw_count_10 (by decide) ?_
  refine xw_iconst C (v := nI 0) d_Lw_count_17 (by decide) (pc' := 18) rfl ?_
  refine xw_iret C hr hlk (F := zW ca ad) M21 rfl ?_ d_Lw_count_18
  exact Or.inl ⟨rfl, r1, M1, hp1, hM21⟩

set_option maxHeartbeats 4000000 in
set_option maxRecDepth 100000 in
theorem c_Lw_shared (l : Launch) (hl0 : l.stackTraces = false) (D : va_G) (ca : Nat → ClassId) (ad : Nat → Nat) (M : Nat → Nat → Int32) (sa : Nat → Nat) (x : Int32)  : xw_Mi l y_Lw_shared (.codeWith y_Lw_shared b_Lw_shared 4 (some .int) [(0, 9, 12, 15)] :: zG) { frames := 8, cells := 1, slots := 6, locals := 150 } D zCl (zT ca) [.ref (ad 0), .int x, .ref (ad 56)] (zW ca ad M) (fun U => zKL sa (va_A (zW ca ad M) U.heap.size) U U.heap) 1 6 (zW ca ad) (fun r M' => r = nI 0 ∧ (∃ v M1, (M1 = M ∧ ∃ i, i < 16 ∧ x = nI i ∧ v = M 12 i) ∧ M' = zst M1 56 0 v) ∨ r = nI 1 ∧ M' = M ∧ ¬ (¬ x < 0 ∧ x < nI 16)) := by
  intro sz
  refine xw_metW (cc := b_Lw_shared) (maxL := 4) (ret := (some .int)) (by decide) rfl (Nat.le_of_ble_eq_true rfl) (fun p e s m args below meth c hr hlk htab hsz hKs C => ?_)
  rw [hsz] at hKs
  have hKs : zKL sa (va_A (zW ca ad M) sz) s s.heap := hKs
  refine xw_lvE (lv' := [(0, .ref (ad 0)), (1, .int x), (2, .ref (ad 56))]) rfl ?_
  refine xw_aload_n C 2 d_Lw_shared_0 rfl rfl (pc' := 1) rfl ?_
  refine xw_iconst C (v := nI 0) d_Lw_shared_1 (by decide) (pc' := 2) rfl ?_
  refine xw_aload_n C 0 d_Lw_shared_2 rfl rfl (pc' := 3) rfl ?_
  refine xw_iload_n C 1 d_Lw_shared_3 rfl rfl (pc' := 4) rfl ?_
  refine xw_callXVi C (c_Ex_shared l hl0 D ca ad M sa x) ⟨zg_B C 1 k_560 k_24 k_563 q_Ex_shared ⟨by decide, by decide⟩, C.2.2.2.2.1 _ k_561, C.2.2.2.2.1 _ k_562⟩ 0 zr_0 rfl rfl (fun _ _ _ _ h => h.call) (fun _ _ _ hD hS hU hW => hKs.1.at C.2.2.2.2.2.2 hD hS hU hW) rfl rfl (Nat.le_of_ble_eq_true rfl) d_Lw_shared_4 ⟨by decide, by decide⟩ (pc' := 7) rfl (fun E u hx => ?_) (fun r1 M1 hp1 => ?_)
  ·
    obtain ⟨hu, hx⟩ := hx
    rw [hu]
    rcases hx with ⟨rfl, g1⟩
    ·
      refine xx_catch C htab [] ⟨0, 9, 12, 15⟩ [] rfl (fun z hz => absurd hz List.not_mem_nil) (by decide) (by decide) k_231 (zK_cast hKs.1 (by decide)) (fun q9 => ?_)
      refine xw_astore_n C d_Lw_shared_12 rfl (by decide) rfl (pc' := 13) rfl ?_
      refine xw_iconst C (v := nI 1) d_Lw_shared_13 (by decide) (pc' := 14) rfl ?_
      refine xw_iret C hr hlk (F := zW ca ad) M rfl ?_ d_Lw_shared_14
      exact Or.inr (⟨rfl, rfl, g1⟩)
  refine xw_i2l C d_Lw_shared_7 rfl (pc' := 8) rfl ?_
  obtain ⟨M21, hM21⟩ : ∃ zq, zq = zst M1 56 0 r1 := ⟨_, rfl⟩
  refine xw_last C 56 3 zr_56 rfl 0 rfl (by omega) (by decide) (ws' := zW ca ad M21) (by rw [hM21]; exact zs_56 _ _) d_Lw_shared_8 (pc' := 9) rfl ?_
  refine xw_goto C (tgt := 15) d_Lw_shared_9 (by decide) ?_
  refine xw_iconst C (v := nI 0) d_Lw_shared_15 (by decide) (pc' := 16) rfl ?_
  refine xw_iret C hr hlk (F := zW ca ad) M21 rfl ?_ d_Lw_shared_16
  exact Or.inl ⟨rfl, r1, M1, hp1, hM21⟩

set_option maxHeartbeats 4000000 in
set_option maxRecDepth 100000 in
theorem c_Lw_synthesize (l : Launch) (hl0 : l.stackTraces = false) (D : va_G) (ca : Nat → ClassId) (ad : Nat → Nat) (M : Nat → Nat → Int32) (sa : Nat → Nat) (md n : Nat) (per wk dl of : Nat → Nat) (hmd : M 0 0 = nI md) (hmb : md ≤ 1) (hT : tkOK M n per wk dl of) : xw_Mi l y_Lw_synthesize (.codeWith y_Lw_synthesize b_Lw_synthesize 3 (some .int) [(0, 8, 11, 13)] :: zG) { frames := 8, cells := 1, slots := 6, locals := 150 } D zCl (zT ca) [.ref (ad 0), .ref (ad 56)] (zW ca ad M) (fun U => zKL sa (va_A (zW ca ad M) U.heap.size) U U.heap) 1 6 (zW ca ad) (fun r M' => r = nI 0 ∧ (∃ v M1, (md = 0 ∧ (∀ a b, a ≠ 3 → a ≠ 4 → a ≠ 5 → a ≠ 6 → a ≠ 8 → a ≠ 9 → a ≠ 13 → M1 a b = M a b) ∧ sp_syn n per wk dl of v (M1 3 0) M1 4 5 6) ∧ M' = zst M1 56 0 v) ∨ r = nI 1 ∧ M' = M ∧ md = 1) := by
  intro sz
  refine xw_metW (cc := b_Lw_synthesize) (maxL := 3) (ret := (some .int)) (by decide) rfl (Nat.le_of_ble_eq_true rfl) (fun p e s m args below meth c hr hlk htab hsz hKs C => ?_)
  rw [hsz] at hKs
  have hKs : zKL sa (va_A (zW ca ad M) sz) s s.heap := hKs
  refine xw_lvE (lv' := [(0, .ref (ad 0)), (1, .ref (ad 56))]) rfl ?_
  refine xw_aload_n C 1 d_Lw_synthesize_0 rfl rfl (pc' := 1) rfl ?_
  refine xw_iconst C (v := nI 0) d_Lw_synthesize_1 (by decide) (pc' := 2) rfl ?_
  refine xw_aload_n C 0 d_Lw_synthesize_2 rfl rfl (pc' := 3) rfl ?_
  refine xw_callXVi C (c_Ex_synthesize l hl0 D ca ad M sa md n per wk dl of hmd hmb hT) ⟨zg_B C 0 k_383 k_24 k_386 q_Ex_synthesize ⟨by decide, by decide⟩, C.2.2.2.2.1 _ k_384, C.2.2.2.2.1 _ k_385⟩ 0 zr_0 rfl rfl (fun _ _ _ _ h => h.call) (fun _ _ _ hD hS hU hW => hKs.1.at C.2.2.2.2.2.2 hD hS hU hW) rfl rfl (Nat.le_of_ble_eq_true rfl) d_Lw_synthesize_3 ⟨by decide, by decide⟩ (pc' := 6) rfl (fun E u hx => ?_) (fun r1 M1 hp1 => ?_)
  ·
    obtain ⟨hu, hx⟩ := hx
    rw [hu]
    rcases hx with ⟨g1, rfl⟩ | hf
    ·
      refine xx_catch C htab [] ⟨0, 8, 11, 13⟩ [] rfl (fun z hz => absurd hz List.not_mem_nil) (by decide) (by decide) k_230 (zK_cast hKs.1 (by decide)) (fun q9 => ?_)
      refine xw_astore_n C d_Lw_synthesize_11 rfl (by decide) rfl (pc' := 12) rfl ?_
      refine xw_iconst C (v := nI 1) d_Lw_synthesize_12 (by decide) (pc' := 13) rfl ?_
      refine xw_iret C hr hlk (F := zW ca ad) M rfl ?_ d_Lw_synthesize_13
      exact Or.inr (⟨rfl, rfl, g1⟩)
    · exact hf.elim
  refine xw_i2l C d_Lw_synthesize_6 rfl (pc' := 7) rfl ?_
  obtain ⟨M21, hM21⟩ : ∃ zq, zq = zst M1 56 0 r1 := ⟨_, rfl⟩
  refine xw_last C 56 3 zr_56 rfl 0 rfl (by omega) (by decide) (ws' := zW ca ad M21) (by rw [hM21]; exact zs_56 _ _) d_Lw_synthesize_7 (pc' := 8) rfl ?_
  refine xw_goto C (tgt := 14) d_Lw_synthesize_8 (by decide) ?_
  refine xw_iconst C (v := nI 0) d_Lw_synthesize_14 (by decide) (pc' := 15) rfl ?_
  refine xw_iret C hr hlk (F := zW ca ad) M21 rfl ?_ d_Lw_synthesize_15
  exact Or.inl ⟨rfl, r1, M1, hp1, hM21⟩

set_option maxHeartbeats 4000000 in
set_option maxRecDepth 100000 in
theorem c_Lw_check (l : Launch) (hl0 : l.stackTraces = false) (D : va_G) (ca : Nat → ClassId) (ad : Nat → Nat) (M : Nat → Nat → Int32) (sa : Nat → Nat) (md n : Nat) (per wk dl of : Nat → Nat) (k : Nat) (st ln tk : Nat → Nat) (hmd : M 0 0 = nI md) (hmb : md ≤ 1) (hT : tkOK M n per wk dl of) (hS : slOK M k st ln tk) : xw_Mi l y_Lw_check (.codeWith y_Lw_check b_Lw_check 3 (some .int) [(0, 15, 18, 13)] :: zG) { frames := 8, cells := 1, slots := 6, locals := 150 } D zCl (zT ca) [.ref (ad 0), .ref (ad 56)] (zW ca ad M) (fun U => zKL sa (va_A (zW ca ad M) U.heap.size) U U.heap) 1 6 (zW ca ad) (fun r M' => r = nI 0 ∧ (∃ v M1, (md = 0 ∧ (v = nI 1 ∧ (∃ h M2, sp_chk n per wk dl of k st ln tk h ∧ (∀ a b, a ≠ 13 → M2 a b = M a b) ∧ (∀ u, u < 240 → M2 13 u = oI (sp_at st ln tk k u)) ∧ M1 = zSta M2 n h) ∨ v = nI 0 ∧ (∀ a b, a ≠ 13 → M1 a b = M a b) ∧ ¬ ∃ h, sp_chk n per wk dl of k st ln tk h)) ∧ M' = zst M1 56 0 v) ∨ r = nI 1 ∧ M' = M ∧ md = 1) := by
  intro sz
  refine xw_metW (cc := b_Lw_check) (maxL := 3) (ret := (some .int)) (by decide) rfl (Nat.le_of_ble_eq_true rfl) (fun p e s m args below meth c hr hlk htab hsz hKs C => ?_)
  rw [hsz] at hKs
  have hKs : zKL sa (va_A (zW ca ad M) sz) s s.heap := hKs
  refine xw_lvE (lv' := [(0, .ref (ad 0)), (1, .ref (ad 56))]) rfl ?_
  refine xw_aload_n C 1 d_Lw_check_0 rfl rfl (pc' := 1) rfl ?_
  refine xw_iconst C (v := nI 0) d_Lw_check_1 (by decide) (pc' := 2) rfl ?_
  refine xw_aload_n C 0 d_Lw_check_2 rfl rfl (pc' := 3) rfl ?_
  refine xw_callXVi C (c_Ex_check l hl0 D ca ad M sa md n per wk dl of k st ln tk hmd hmb hT hS) ⟨zg_B C 0 k_461 k_24 k_464 q_Ex_check ⟨by decide, by decide⟩, C.2.2.2.2.1 _ k_462, C.2.2.2.2.1 _ k_463⟩ 0 zr_0 rfl rfl (fun _ _ _ _ h => h.call) (fun _ _ _ hD hS hU hW => hKs.1.at C.2.2.2.2.2.2 hD hS hU hW) rfl rfl (Nat.le_of_ble_eq_true rfl) d_Lw_check_3 ⟨by decide, by decide⟩ (pc' := 6) rfl (fun E u hx => ?_) (fun r1 M1 hp1 => ?_)
  ·
    obtain ⟨hu, hx⟩ := hx
    rw [hu]
    rcases hx with ⟨g1, rfl⟩ | hf
    ·
      refine xx_catch C htab [] ⟨0, 15, 18, 13⟩ [] rfl (fun z hz => absurd hz List.not_mem_nil) (by decide) (by decide) k_230 (zK_cast hKs.1 (by decide)) (fun q9 => ?_)
      refine xw_astore_n C d_Lw_check_18 rfl (by decide) rfl (pc' := 19) rfl ?_
      refine xw_iconst C (v := nI 1) d_Lw_check_19 (by decide) (pc' := 20) rfl ?_
      refine xw_iret C hr hlk (F := zW ca ad) M rfl ?_ d_Lw_check_20
      exact Or.inr (⟨rfl, rfl, g1⟩)
    · exact hf.elim
  obtain ⟨hm0, hp1⟩ := hp1
  rcases hp1 with ⟨hr1, hp1⟩ | ⟨hr1, hp1⟩
  all_goals subst hr1
  ·
    refine xw_if_eq C (tgt := 13) d_Lw_check_6 (by decide) (pc' := 9) rfl (fun h6 => ?_) (fun h6 => ?_)
    ·
      replace h6 : 1 = 0 := (xp_eq0 (by omega)).mp h6
      omega
    ·
      replace h6 : ¬ (1 = 0) := fun hneg => h6 ((xp_eq0 (by omega)).mpr hneg)
      refine xw_lconst C (v := 1) d_Lw_check_9 (by decide) (pc' := 10) rfl ?_
      refine xw_topl (y := (nI 1).toInt64) (by decide) ?_
      refine xw_goto C (tgt := 14) d_Lw_check_10 (by decide) ?_
      obtain ⟨M21, hM21⟩ : ∃ zq, zq = zst M1 56 0 (nI 1) := ⟨_, rfl⟩
      refine xw_last C 56 3 zr_56 rfl 0 rfl (by omega) (by decide) (ws' := zW ca ad M21) (by rw [hM21]; exact zs_56 _ _) d_Lw_check_14 (pc' := 15) rfl ?_
      refine xw_goto C (tgt := 21) d_Lw_check_15 (by decide) ?_
      refine xw_iconst C (v := nI 0) d_Lw_check_21 (by decide) (pc' := 22) rfl ?_
      refine xw_iret C hr hlk (F := zW ca ad) M21 rfl ?_ d_Lw_check_22
      exact Or.inl ⟨rfl, nI 1, M1, ⟨hm0, Or.inl ⟨rfl, hp1⟩⟩, hM21⟩
  ·
    refine xw_if_eq C (tgt := 13) d_Lw_check_6 (by decide) (pc' := 9) rfl (fun h6 => ?_) (fun h6 => ?_)
    ·
      replace h6 : 0 = 0 := (xp_eq0 (by omega)).mp h6
      refine xw_lconst C (v := 0) d_Lw_check_13 (by decide) (pc' := 14) rfl ?_
      refine xw_topl (y := (nI 0).toInt64) (by decide) ?_
      obtain ⟨M22, hM22⟩ : ∃ zq, zq = zst M1 56 0 (nI 0) := ⟨_, rfl⟩
      refine xw_last C 56 3 zr_56 rfl 0 rfl (by omega) (by decide) (ws' := zW ca ad M22) (by rw [hM22]; exact zs_56 _ _) d_Lw_check_14 (pc' := 15) rfl ?_
      refine xw_goto C (tgt := 21) d_Lw_check_15 (by decide) ?_
      refine xw_iconst C (v := nI 0) d_Lw_check_21 (by decide) (pc' := 22) rfl ?_
      refine xw_iret C hr hlk (F := zW ca ad) M22 rfl ?_ d_Lw_check_22
      exact Or.inl ⟨rfl, nI 0, M1, ⟨hm0, Or.inr ⟨rfl, hp1⟩⟩, hM22⟩
    ·
      replace h6 : ¬ (0 = 0) := fun hneg => h6 ((xp_eq0 (by omega)).mpr hneg)
      omega

set_option maxHeartbeats 4000000 in
set_option maxRecDepth 100000 in
theorem c_Lw_tick (l : Launch) (hl0 : l.stackTraces = false) (D : va_G) (ca : Nat → ClassId) (ad : Nat → Nat) (M : Nat → Nat → Int32) (sa : Nat → Nat) (md n : Nat) (per wk dl of : Nat → Nat) (own : Nat → Option Nat) (h tm : Nat) (hmd : M 0 0 = nI md) (hmb : md ≤ 1) (hR : md = 1 → rnOK M n per wk dl of own h tm) (htm : tm < 2 ^ 30) : xw_Mi l y_Lw_tick (.codeWith y_Lw_tick b_Lw_tick 3 (some .int) [(0, 8, 11, 13)] :: zG) { frames := 8, cells := 1, slots := 6, locals := 150 } D zCl (zT ca) [.ref (ad 0), .ref (ad 56)] (zW ca ad M) (fun U => zKL sa (va_A (zW ca ad M) U.heap.size) U U.heap) 1 6 (zW ca ad) (fun r M' => r = nI 0 ∧ (∃ v M1, (md = 1 ∧ M1 = (tkF n per wk of own h tm M).1 ∧ v = (tkF n per wk of own h tm M).2) ∧ M' = zst M1 56 0 v) ∨ r = nI 1 ∧ M' = M ∧ md = 0) := by
  intro sz
  refine xw_metW (cc := b_Lw_tick) (maxL := 3) (ret := (some .int)) (by decide) rfl (Nat.le_of_ble_eq_true rfl) (fun p e s m args below meth c hr hlk htab hsz hKs C => ?_)
  rw [hsz] at hKs
  have hKs : zKL sa (va_A (zW ca ad M) sz) s s.heap := hKs
  refine xw_lvE (lv' := [(0, .ref (ad 0)), (1, .ref (ad 56))]) rfl ?_
  refine xw_aload_n C 1 d_Lw_tick_0 rfl rfl (pc' := 1) rfl ?_
  refine xw_iconst C (v := nI 0) d_Lw_tick_1 (by decide) (pc' := 2) rfl ?_
  refine xw_aload_n C 0 d_Lw_tick_2 rfl rfl (pc' := 3) rfl ?_
  refine xw_callXVi C (c_Ex_tick l hl0 D ca ad M sa md n per wk dl of own h tm hmd hmb hR htm) ⟨zg_B C 0 k_502 k_24 k_505 q_Ex_tick ⟨by decide, by decide⟩, C.2.2.2.2.1 _ k_503, C.2.2.2.2.1 _ k_504⟩ 0 zr_0 rfl rfl (fun _ _ _ _ h => h.call) (fun _ _ _ hD hS hU hW => hKs.1.at C.2.2.2.2.2.2 hD hS hU hW) rfl rfl (Nat.le_of_ble_eq_true rfl) d_Lw_tick_3 ⟨by decide, by decide⟩ (pc' := 6) rfl (fun E u hx => ?_) (fun r1 M1 hp1 => ?_)
  ·
    obtain ⟨hu, hx⟩ := hx
    rw [hu]
    rcases hx with ⟨g1, rfl⟩ | hf
    ·
      refine xx_catch C htab [] ⟨0, 8, 11, 13⟩ [] rfl (fun z hz => absurd hz List.not_mem_nil) (by decide) (by decide) k_230 (zK_cast hKs.1 (by decide)) (fun q9 => ?_)
      refine xw_astore_n C d_Lw_tick_11 rfl (by decide) rfl (pc' := 12) rfl ?_
      refine xw_iconst C (v := nI 1) d_Lw_tick_12 (by decide) (pc' := 13) rfl ?_
      refine xw_iret C hr hlk (F := zW ca ad) M rfl ?_ d_Lw_tick_13
      exact Or.inr (⟨rfl, rfl, g1⟩)
    · exact hf.elim
  refine xw_i2l C d_Lw_tick_6 rfl (pc' := 7) rfl ?_
  obtain ⟨M21, hM21⟩ : ∃ zq, zq = zst M1 56 0 r1 := ⟨_, rfl⟩
  refine xw_last C 56 3 zr_56 rfl 0 rfl (by omega) (by decide) (ws' := zW ca ad M21) (by rw [hM21]; exact zs_56 _ _) d_Lw_tick_7 (pc' := 8) rfl ?_
  refine xw_goto C (tgt := 14) d_Lw_tick_8 (by decide) ?_
  refine xw_iconst C (v := nI 0) d_Lw_tick_14 (by decide) (pc' := 15) rfl ?_
  refine xw_iret C hr hlk (F := zW ca ad) M21 rfl ?_ d_Lw_tick_15
  exact Or.inl ⟨rfl, r1, M1, hp1, hM21⟩

set_option maxHeartbeats 4000000 in
set_option maxRecDepth 100000 in
theorem c_Lw_ticks (l : Launch) (hl0 : l.stackTraces = false) (D : va_G) (ca : Nat → ClassId) (ad : Nat → Nat) (M : Nat → Nat → Int32) (sa : Nat → Nat) (md n : Nat) (per wk dl of : Nat → Nat) (own : Nat → Option Nat) (h tm : Nat) (x : Int32) (hmd : M 0 0 = nI md) (hmb : md ≤ 1) (hR : md = 1 → rnOK M n per wk dl of own h tm) (htm : tm < 2 ^ 29) : xw_Mi l y_Lw_ticks (.codeWith y_Lw_ticks b_Lw_ticks 4 (some .int) [(0, 9, 12, 13), (0, 9, 15, 21)] :: zG) { frames := 8, cells := 2, slots := 12, locals := 150 } D zCl (zT ca) [.ref (ad 0), .int x, .ref (ad 56)] (zW ca ad M) (fun U => zKL sa (va_A (zW ca ad M) U.heap.size) U U.heap) 2 12 (zW ca ad) (fun r M' => r = nI 0 ∧ (∃ v M1, (md = 1 ∧ ∃ q, 1 ≤ q ∧ q ≤ 500 ∧ x = nI q ∧ M1 = (tkN n per wk of own h tm M q).1 ∧ v = nI (tkN n per wk of own h tm M q).2) ∧ M' = zst M1 56 0 v) ∨ r = nI 1 ∧ M' = M ∧ md = 0 ∨ r = nI 2 ∧ M' = M ∧ md = 1 ∧ ¬ (¬ x < nI 1 ∧ ¬ nI 500 < x)) := by
  intro sz
  refine xw_metW (cc := b_Lw_ticks) (maxL := 4) (ret := (some .int)) (by decide) rfl (Nat.le_of_ble_eq_true rfl) (fun p e s m args below meth c hr hlk htab hsz hKs C => ?_)
  rw [hsz] at hKs
  have hKs : zKL sa (va_A (zW ca ad M) sz) s s.heap := hKs
  refine xw_lvE (lv' := [(0, .ref (ad 0)), (1, .int x), (2, .ref (ad 56))]) rfl ?_
  refine xw_aload_n C 2 d_Lw_ticks_0 rfl rfl (pc' := 1) rfl ?_
  refine xw_iconst C (v := nI 0) d_Lw_ticks_1 (by decide) (pc' := 2) rfl ?_
  refine xw_aload_n C 0 d_Lw_ticks_2 rfl rfl (pc' := 3) rfl ?_
  refine xw_iload_n C 1 d_Lw_ticks_3 rfl rfl (pc' := 4) rfl ?_
  refine xw_callXVi C (c_Ex_ticks l hl0 D ca ad M sa md n per wk dl of own h tm x hmd hmb hR htm) ⟨zg_B C 1 k_545 k_24 k_548 q_Ex_ticks ⟨by decide, by decide⟩, C.2.2.2.2.1 _ k_546, C.2.2.2.2.1 _ k_547⟩ 0 zr_0 rfl rfl (fun _ _ _ _ h => h.call) (fun _ _ _ hD hS hU hW => hKs.1.at C.2.2.2.2.2.2 hD hS hU hW) rfl rfl (Nat.le_of_ble_eq_true rfl) d_Lw_ticks_4 ⟨by decide, by decide⟩ (pc' := 7) rfl (fun E u hx => ?_) (fun r1 M1 hp1 => ?_)
  ·
    obtain ⟨hu, hx⟩ := hx
    rw [hu]
    rcases hx with ⟨g1, rfl⟩ | ⟨g1, rfl, g2⟩
    ·
      refine xx_catch C htab [] ⟨0, 9, 12, 13⟩ [⟨0, 9, 15, 21⟩] rfl (fun z hz => absurd hz List.not_mem_nil) (by decide) (by decide) k_230 (zK_cast hKs.1 (by decide)) (fun q9 => ?_)
      refine xw_astore_n C d_Lw_ticks_12 rfl (by decide) rfl (pc' := 13) rfl ?_
      refine xw_iconst C (v := nI 1) d_Lw_ticks_13 (by decide) (pc' := 14) rfl ?_
      refine xw_iret C hr hlk (F := zW ca ad) M rfl ?_ d_Lw_ticks_14
      exact Or.inr (Or.inl ⟨rfl, rfl, g1⟩)
    ·
      refine xx_catch C htab [⟨0, 9, 12, 13⟩] ⟨0, 9, 15, 21⟩ [] rfl (List.forall_mem_cons.mpr ⟨⟨by decide, _, k_230, hKs.2.2.1⟩, (fun _ h => absurd h List.not_mem_nil)⟩) (by decide) (by decide) k_330 (zK_cast hKs.1 (by decide)) (fun q9 => ?_)
      refine xw_astore_n C d_Lw_ticks_15 rfl (by decide) rfl (pc' := 16) rfl ?_
      refine xw_iconst C (v := nI 2) d_Lw_ticks_16 (by decide) (pc' := 17) rfl ?_
      refine xw_iret C hr hlk (F := zW ca ad) M rfl ?_ d_Lw_ticks_17
      exact Or.inr (Or.inr (⟨rfl, rfl, ⟨g1, g2⟩⟩))
  refine xw_i2l C d_Lw_ticks_7 rfl (pc' := 8) rfl ?_
  obtain ⟨M21, hM21⟩ : ∃ zq, zq = zst M1 56 0 r1 := ⟨_, rfl⟩
  refine xw_last C 56 3 zr_56 rfl 0 rfl (by omega) (by decide) (ws' := zW ca ad M21) (by rw [hM21]; exact zs_56 _ _) d_Lw_ticks_8 (pc' := 9) rfl ?_
  refine xw_goto C (tgt := 18) d_Lw_ticks_9 (by decide) ?_
  refine xw_iconst C (v := nI 0) d_Lw_ticks_18 (by decide) (pc' := 19) rfl ?_
  refine xw_iret C hr hlk (F := zW ca ad) M21 rfl ?_ d_Lw_ticks_19
  exact Or.inl ⟨rfl, r1, M1, hp1, hM21⟩
