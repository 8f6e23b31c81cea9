/-! THE CLAIM OUT OF ONE WALK OF THE LAW'S BODY. Your part is whole_start (and what it stands on); all else here is the same for every law, but numbers. -/
def R_law : String := "TabledExecutiveLaw"
def lw_P (b : Addr) (xs : List Int32) (args : Array Value) (s : State) : Prop := args = #[.ref b] ∧ s.IntsAt b xs ∧ xs.length ≤ 2560 ∧ (Jvm.Cond.and given_1 narrow_1).before args s = true
def lw_Q (_ : Array Value) (s : State) (o : Outcome) (t : State) : Prop := o = .returned (some (.int 1)) ∧ Framed s o t [] 605353 7280045
def lw_Z (below : List Frame) (a : Array Value) (s : State) : State → Prop := fun t => ∃ o, t.status = .running ∧ Ended t below o ∧ lw_Q a s o t
/-- the law's own end, with 1 on the stack, nothing written that was there before, its room as the claim has it -/
theorem lw_ret {p : Program} {l : Launch} {e : Env} {s : State} {m : MethodId} {below : List Frame} {meth : Method} {c : Code} {b : Nat} (hx : p.tables.exec = Jvm.exec) (hb : c.code = code) (hr : meth.sig.returnType = ret) (hlocks : meth.locks = false) {pc : Nat} {H : Heap} {ls : Array Slot} (hdg : decode code pc = .ok (.ireturn, 1)) : W p l e room_1 s m #[Value.ref b] below meth c H [] 605353 7280045 (lw_Z below #[Value.ref b] s) (F0 m pc ls [.int 1]) := by
  intro T hT X
  obtain ⟨fs, hret, hrun, hended, hW, hframe⟩ := X.leave (v := some (.int 1)) (hlocks := hlocks) (fun h => by rw [hr] at h; cases h)
  have hmeth' : T.vm.method? m = some meth := X.method'
  refine ⟨T.setFrames fs, ?_, .returned (some (.int 1)), hrun, hended, rfl, ⟨_, rfl⟩, hW, hframe⟩
  jvm_step X.here [X.here.top, hx, hb, hdg, hmeth', hr, ret, narrow_b1]
  (try refine ⟨rfl, ?_⟩); (try refine ⟨rfl, ?_⟩)
  first | (intro acts; rw [hret _ acts rfl rfl rfl]) | rw [hret _ _ rfl rfl rfl]
  exact Steps.refl _
/-- what holds at the law's entry: the machine, the code, the tables' words (any of lw_tbl by 'hts w (by decide +kernel)'), the script of L ints xs at the cell b, what the Statement gives of the start (any of its parts by flat_of_before) -/
def lw_At (p : Program) (s : State) (m : MethodId) (meth : Method) (c : Code) (b L : Nat) (xs : Nat → Int32) : Prop :=
  p.tables.exec = Jvm.exec ∧ c.code = code ∧ meth.sig.returnType = ret ∧ c.maxLocals = 7 ∧ s.vm.findClass R_law = some m.cls ∧ (∀ w ∈ lw_tbl, w.before #[Value.ref b] s = true) ∧ va_X b L xs s s.heap ∧ b < s.heap.size ∧ meth.locks = false ∧ (Jvm.Cond.and given_1 narrow_1).before #[Value.ref b] s = true
theorem lw_D {s : State} {args : Array Value} (hG : ∀ w ∈ zG, w.before args s = true) : ∃ D : va_G, ∀ (c : Nat) (q : vw_C), zCl[c]? = some q → u_Kn s q.1 q.2.1 q.2.2 (D.1 c) (D.2 c) := by
  obtain ⟨c0, i0, k0⟩ := u_known hG u_Jb (hG _ k_62)
  obtain ⟨c1, i1, k1⟩ := u_known hG u_Mc (hG _ k_168)
  obtain ⟨c2, i2, k2⟩ := u_known hG u_Pl (hG _ k_155)
  obtain ⟨c3, i3, k3⟩ := u_known hG u_Tb (hG _ k_135)
  obtain ⟨c4, i4, k4⟩ := u_known hG u_Tk (hG _ k_56)
  obtain ⟨c5, i5, k5⟩ := u_known hG u_Tl (hG _ k_49)
  obtain ⟨c6, i6, k6⟩ := u_known hG u_Ex (hG _ k_41)
  obtain ⟨c7, i7, k7⟩ := u_known hG u_Md (hG _ k_565)
  refine ⟨(fun c => match c with | 0 => c0 | 1 => c1 | 2 => c2 | 3 => c3 | 4 => c4 | 5 => c5 | 6 => c6 | _ => c7, fun c => match c with | 0 => i0 | 1 => i1 | 2 => i2 | 3 => i3 | 4 => i4 | 5 => i5 | 6 => i6 | _ => i7), fun c q h => ?_⟩
  have hc : c < 8 := (List.getElem?_eq_some_iff.mp h).1
  have h8 : c = 0 ∨ c = 1 ∨ c = 2 ∨ c = 3 ∨ c = 4 ∨ c = 5 ∨ c = 6 ∨ c = 7 := by omega
  rcases h8 with rfl | rfl | rfl | rfl | rfl | rfl | rfl | rfl
  · have e : (R_Jb, F_Jb, 5) = q := Option.some.inj h
    subst e
    exact k0
  · have e : (R_Mc, F_Mc, 2) = q := Option.some.inj h
    subst e
    exact k1
  · have e : (R_Pl, F_Pl, 2) = q := Option.some.inj h
    subst e
    exact k2
  · have e : (R_Tb, F_Tb, 4) = q := Option.some.inj h
    subst e
    exact k3
  · have e : (R_Tk, F_Tk, 7) = q := Option.some.inj h
    subst e
    exact k4
  · have e : (R_Tl, F_Tl, 2) = q := Option.some.inj h
    subst e
    exact k5
  · have e : (R_Ex, F_Ex, 8) = q := Option.some.inj h
    subst e
    exact k6
  · have e : (R_Md, F_Md, 22) = q := Option.some.inj h
    subst e
    exact k7
theorem lw_ca {s : State} {args : Array Value} (hG : ∀ w ∈ zG, w.before args s = true) (ho : (Cond.arrayOver (.object "TabledExecutive$Task")).before args s = true) : ∃ ca : Nat → ClassId, ∀ (k : Nat) (q : ClassId × FieldType), (zT ca)[k]? = some q → ArrOfT s q.1 q.2 ∧ va_RA s q.1 q.2 := by
  obtain ⟨a0, x0, y0, f0, g0, h0⟩ := Cond.arrayClass_spec (hG _ k_89)
  obtain ⟨a2, x2, y2, f2, g2, h2⟩ := Cond.arrayClass_spec (hG _ k_637)
  obtain ⟨a3, x3, y3, f3, g3, h3⟩ := Cond.arrayClass_spec (hG _ k_762)
  obtain ⟨y1, a1, x1, p1, p2, p3, p4, p5⟩ := Cond.arrayOver_spec ho
  refine ⟨fun c => match c with | 0 => a0 | 1 => a1 | 2 => a2 | _ => a3, fun k q h => ?_⟩
  have hc : k < 4 := (List.getElem?_eq_some_iff.mp h).1
  have h8 : k = 0 ∨ k = 1 ∨ k = 2 ∨ k = 3 := by omega
  rcases h8 with rfl | rfl | rfl | rfl
  · have e : (a0, FieldType.int) = q := Option.some.inj h
    subst e
    exact ⟨fun N z => ⟨(fun q hq => by cases hq), x0, g0, y0, h0⟩, f0⟩
  · have e : (a1, FieldType.object "TabledExecutive$Task") = q := Option.some.inj h
    subst e
    exact ⟨fun N z => ⟨(fun q hq => by cases hq), x1, p3, y1, p4⟩, x1, y1, p3, p4, p1, p5⟩
  · have e : (a2, FieldType.boolean) = q := Option.some.inj h
    subst e
    exact ⟨fun N z => ⟨(fun q hq => by cases hq), x2, g2, y2, h2⟩, f2⟩
  · have e : (a3, FieldType.long) = q := Option.some.inj h
    subst e
    exact ⟨fun N z => ⟨(fun q hq => by cases hq), x3, g3, y3, h3⟩, f3⟩
theorem lw_sa {s : State} {args : Array Value} (hG : ∀ w ∈ zG, w.before args s = true) (hts : ∀ w ∈ lw_tbl, w.before args s = true) : ∃ sa : Nat → Nat, ∀ q ∈ zS, vk_R "TabledExecutive" q.1 q.2 (sa q.1) s := by
  obtain ⟨cC, kC, hfc, -⟩ := Cond.instantiable_spec (hG _ k_41)
  have w0 : (Cond.stringRef "TabledExecutive" 67 "there are 6 tasks").before args s = true := hts _ (List.mem_of_getElem? (i := 335) (by decide +kernel))
  obtain ⟨-, -, -, b0, -, -, -, -, -, e0⟩ := Cond.stringRef_spec hfc w0
  have w1 : (Cond.stringRef "TabledExecutive" 78 "no such task can be").before args s = true := hts _ (List.mem_of_getElem? (i := 348) (by decide +kernel))
  obtain ⟨-, -, -, b1, -, -, -, -, -, e1⟩ := Cond.stringRef_spec hfc w1
  have w2 : (Cond.stringRef "TabledExecutive" 113 "no such slot can be").before args s = true := hts _ (List.mem_of_getElem? (i := 437) (by decide +kernel))
  obtain ⟨-, -, -, b2, -, -, -, -, -, e2⟩ := Cond.stringRef_spec hfc w2
  have w3 : (Cond.stringRef "TabledExecutive" 119 "there is no slot").before args s = true := hts _ (List.mem_of_getElem? (i := 446) (by decide +kernel))
  obtain ⟨-, -, -, b3, -, -, -, -, -, e3⟩ := Cond.stringRef_spec hfc w3
  have w4 : (Cond.stringRef "TabledExecutive" 140 "not 1 .. 500 ticks").before args s = true := hts _ (List.mem_of_getElem? (i := 549) (by decide +kernel))
  obtain ⟨-, -, -, b4, -, -, -, -, -, e4⟩ := Cond.stringRef_spec hfc w4
  have w5 : (Cond.stringRef "TabledExecutive" 148 "the mode is not EDIT").before args s = true := hts _ (List.mem_of_getElem? (i := 281) (by decide +kernel))
  obtain ⟨-, -, -, b5, -, -, -, -, -, e5⟩ := Cond.stringRef_spec hfc w5
  have w6 : (Cond.stringRef "TabledExecutive" 150 "the mode is not RUN").before args s = true := hts _ (List.mem_of_getElem? (i := 498) (by decide +kernel))
  obtain ⟨-, -, -, b6, -, -, -, -, -, e6⟩ := Cond.stringRef_spec hfc w6
  have w7 : (Cond.stringRef "TabledExecutive" 154 "there is no such number").before args s = true := hts _ (List.mem_of_getElem? (i := 320) (by decide +kernel))
  obtain ⟨-, -, -, b7, -, -, -, -, -, e7⟩ := Cond.stringRef_spec hfc w7
  refine ⟨fun i => if i = 67 then b0 else if i = 78 then b1 else if i = 113 then b2 else if i = 119 then b3 else if i = 140 then b4 else if i = 148 then b5 else if i = 150 then b6 else b7, fun q hq => ?_⟩
  simp only [zS, List.mem_cons, List.not_mem_nil, or_false] at hq
  rcases hq with rfl | rfl | rfl | rfl | rfl | rfl | rfl | rfl
  · exact vk_R.of w0 e0
  · exact vk_R.of w1 e1
  · exact vk_R.of w2 e2
  · exact vk_R.of w3 e3
  · exact vk_R.of w4 e4
  · exact vk_R.of w5 e5
  · exact vk_R.of w6 e6
  · exact vk_R.of w7 e7
theorem zK_tbl : ∀ w ∈ zK, w ∈ lw_tbl := by decide +kernel
theorem zN_tbl : ∀ w ∈ zN, w ∈ lw_tbl := by decide +kernel
/-- from the entry, for every script of at most 2560 ints, the law comes to its end with true -/
theorem whole_start {p : Program} {e : Env} {s : State} {m : MethodId} {below : List Frame} {meth : Method} {c : Code} (l : Launch) (hl0 : l.stackTraces = false) {b L : Nat} {xs : Nat → Int32} (hL : L ≤ 2560) (C0 : lw_At p s m meth c b L xs) : W p l e room_1 s m #[Value.ref b] below meth c s.heap [] 0 0 (lw_Z below #[Value.ref b] s) (entryFrame m ([Value.ref b] : List Value).toArray 7) := by
  obtain ⟨hx, hb, hr, hml, hown, hts, hX, hbl, hlk, hgv⟩ := C0
  have hG : ∀ w ∈ zG, w.before #[Value.ref b] s = true := fun w h => hts w (List.mem_filter.mp h).1
  have hov : (Cond.arrayOver (.object "TabledExecutive$Task")).before #[Value.ref b] s = true := hts _ (List.mem_of_getElem? (i := 55) (by decide +kernel))
  obtain ⟨D, hD⟩ := lw_D hG
  obtain ⟨ca, hca⟩ := lw_ca hG hov
  obtain ⟨sa, hsa⟩ := lw_sa hG hts
  have hfl := flat_of_before _ hgv
  have hA : ∀ a : Nat, a < s.heap.size → ¬ s.heap.size ≤ a := fun a h => Nat.not_le.mpr h
  have C : xw_C p s m #[Value.ref b] c b_Lw_law 7 "TabledExecutiveLaw" zG D zCl (zT ca) (fun q => s.heap.size ≤ q) s.heap := ⟨hx, hb, hml, hown, hG, ⟨hD, hca⟩, fun q h => h⟩
  have hKX : zKX sa (fun q => s.heap.size ≤ q) s s.heap := ⟨fun w hw => va_Nw.of (zK_on w hw) (hts w (zK_tbl w hw)), hsa, vx_Zqof (hts _ (List.mem_of_getElem? (i := 267) (by decide +kernel))) (hts _ (List.mem_of_getElem? (i := 32) (by decide +kernel))) (hfl _ (by decide +kernel)) hA, vx_Zqof (hts _ (List.mem_of_getElem? (i := 269) (by decide +kernel))) (hts _ (List.mem_of_getElem? (i := 32) (by decide +kernel))) (hfl _ (by decide +kernel)) hA⟩
  have hNc : zNc s := ⟨va_Nc.of (hfl (.not (.castable "java/lang/IndexOutOfBoundsException" "java/lang/IllegalStateException")) (by decide +kernel)), va_Nc.of (hfl (.not (.castable "java/lang/IllegalArgumentException" "java/lang/IllegalStateException")) (by decide +kernel)), va_Nc.of (hfl (.not (.castable "java/lang/IllegalArgumentException" "java/lang/IndexOutOfBoundsException")) (by decide +kernel))⟩
  have H : LwC p l s m c D ca sa b L xs := ⟨C, ⟨hKX, hNc⟩, hX, hbl, hl0, hL⟩
  have hK2 : zK2 s := ⟨fun w hw => va_Nw.of (zN_on w hw) (hts w (zN_tbl w hw)), va_AO.of hov⟩
  rw [lg_entry_eq]
  refine lw_begin H hK2 (Q := lw_Z below #[Value.ref b] s) (fun ad => lw_loop H (fun N i M hN H9 locs ls hP hD hS hl => ?_) L 0 0 M0 rfl rfl (Nat.zero_le _) LwE_0) s.heap [] _ (fun k q hk => (by cases hk)) ⟨fun i j p q hk _ _ => (by cases hk), fun k q hk => (by cases hk)⟩ va_S.rf (lv_entry [Value.ref b] (Nat.le_of_ble_eq_true rfl))
  refine va_forget hS.2.2 (W.widen (k := 605353) (n := 7280045) (by omega) (by omega) ?_)
  refine lv_iconst (v := 1) hx hb d_Lw_law_884 (by decide) ?_
  exact lw_ret hx hb hr hlk d_Lw_law_885

set_option maxHeartbeats 4000000 in
theorem lw_walk (l : Launch) (hl0 : l.stackTraces = false) (b : Addr) (xs : List Int32) : MetFree l x (headSpec (Jvm.Cond.code x code maxLocals ret :: tables_1) room_1) (lw_P b xs) (fun _ _ _ _ _ => True) lw_Q := by
  refine MetFree.of_bodyS (code := code) (maxLocals := maxLocals) (ret := ret) (by decide) ?_ ?_
  · intro args s m h hn
    obtain ⟨meth, c, h1, h2, h3, h4, h5, h6, -, -⟩ := Cond.code_spec hn (atoms_spec (ws := Jvm.Cond.code x code maxLocals ret :: tables_1) h _ List.mem_cons_self)
    exact ⟨meth, c, h1, h2, h3, h4, h5, h6⟩
  · intro p e s m args below meth c s₁ B hml0 hP _
    obtain ⟨rfl, hx, hbd, hgv⟩ := hP
    obtain ⟨scr, harrAt, hlist, hof, hsmall⟩ := hx
    obtain ⟨hcb, hkn, -, -⟩ := State.arrayAt?_spec harrAt
    have hown : s.vm.findClass R_law = some m.cls := findClass_of_methodNamed B.named
    have hts0 : ∀ c ∈ (Jvm.Cond.code x code maxLocals ret :: tables_1), c.before #[Value.ref b] s = true := atoms_spec (ws := Jvm.Cond.code x code maxLocals ret :: tables_1) B.pre
    have hts : ∀ w ∈ lw_tbl, w.before #[Value.ref b] s = true := k2_hts_sels lw_privs (fun w hw => hts0 w (List.mem_cons_of_mem _ hw)) lw_privs_ok
    have hml : c.maxLocals = 7 := B.maxLocals_eq (hts0 _ List.mem_cons_self)
    have X₀ : Stand p l e room_1 s m #[Value.ref b] below meth c s₁ [] 0 0 := Stand.of_body B
    have hh0 : s₁.heap = s.heap := by rw [B.state]; rfl
    have hsz : scr.slots.size = xs.length := by rw [← Array.length_toList, hlist, List.length_map]
    have hval : ∀ j : Nat, j < xs.length → scr.slots[j]? = some (.int (xs.getD j 0)) := fun j hj => by
      rw [← Array.getElem?_toList, hlist]
      simp [hj]
    have hbl : b < s.heap.size := (Array.getElem?_eq_some_iff.mp hcb).1
    have hX : va_X b xs.length (fun j => xs.getD j 0) s s.heap := ⟨scr, hcb, hof, hkn, hsz, hval⟩
    have K : W p l e room_1 s m #[Value.ref b] below meth c s₁.heap [] 0 0 (lw_Z below #[Value.ref b] s) (entryFrame m ([Value.ref b] : List Value).toArray 7) := by
      rw [hh0]
      exact whole_start l hl0 hbd ⟨B.exec, B.bytes, B.returns, hml, hown, hts, hX, hbl, B.notSynchronized, hgv⟩
    obtain ⟨t, a1, o, b1, b2, b3⟩ := K s₁ rfl X₀
    exact ⟨t, o, a1, b1, b2, b3⟩
theorem lw_pre_spec {args : Array Value} {s : State} (h : (Jvm.Cond.and given_1 narrow_1).before args s = true) (hr : rest_1_c.before args s = true) : ∃ (b : Addr) (xs : List Int32), lw_P b xs args s := by
  have hs := flat_of_before _ h
  have hq := flat_of_before _ hr
  have hc : (Cond.count 1).before args s = true := hs _ (by decide +kernel)
  have harr : (Cond.arrayOf (.arg 0) .int).before args s = true := hs _ (by decide +kernel)
  have hle : (Cond.le (.length (.arg 0)) (.int 2560)).before args s = true := hs _ (by decide +kernel)
  have hlen : (Cond.isInt (.length (.arg 0))).before args s = true := hq _ (by decide +kernel)
  have hall : (Cond.all (.arg 0) (.isInt (.elem (.arg 0) (.index 0)))).before args s = true := hq _ (by decide +kernel)
  obtain ⟨b, xs, hb, hx⟩ := State.ints_of_pre rfl harr hlen hall
  have hsm : xs.length < 2 ^ 31 := hx.choose_spec.2.2.2
  have hev : (Term.length (.arg 0)).eval args s none [] s = some (.int xs.length.toInt32) := hx.length_eval hb
  have hv := Cond.le_ints hev (show (Term.int 2560).eval args s none [] s = some (.int 2560) from rfl)
  have hd : xs.length.toInt32 ≤ 2560 := by
    simpa [Cond.before, Cond.holds, hv] using hle
  have hN : xs.length ≤ 2560 := (Int32.ofNat_le_ofNat hsm (by decide)).mp (show Int32.ofNat xs.length ≤ Int32.ofNat 2560 from hd)
  exact ⟨b, xs, Cond.one_arg hc (show args[0]? = some (.ref b) from hb), hx, hN, h⟩
theorem lw_comes (l : Launch) (hl0 : l.stackTraces = false) : Comes l x (Jvm.Cond.code x code maxLocals ret :: tables_1) room_1 (fun tb e args s => Calls_1 tb e args s ∧ rest_1 tb e args s ∧ Pre_1 tb e args s)
    (fun _ _ args s o t => lw_Q args s o t) := by
  intro p e ha hc hk s m args below hf hfit hheap happ hpre
  obtain ⟨b, xs, hP⟩ := lw_pre_spec hpre.2.2 hpre.2.1
  obtain ⟨k, o, h1, h2, h3, hQ⟩ := lw_walk l hl0 b xs p e ha hc hk s m args below hf ((Spec.applies_iff_loose hf).mp happ).1 hP trivial
  exact ⟨k, o, h1, h2, h3, hQ⟩
theorem lw_frame {s t : State} {o : Outcome} {args : Array Value} (h : Framed s o t [] 605353 7280045) :
    Framed s o t (fieldLocs frame_1_writes args s ++ arrayLocs frame_1_arrays args s ++ staticLocs frame_1_statics s) 605353 7280045 := h
theorem lw_limb (L : Cond) (hL : ∀ (args : Array Value) (s t : State), L.after args s (.returned (some (.int 1))) t = true) :
    ArmFor flags0 classFile x code maxLocals ret World_1 tables_1 room_1 Calls_1 rest_1 Pre_1
      (fun tb e a s o t => postC L tb e a s o t ∧ Framed s o t (fieldLocs frame_1_writes a s ++ arrayLocs frame_1_arrays a s ++ staticLocs frame_1_statics s) 605353 7280045) := by
  intro l hfl _ _ p e ha hc hk s m args below hf hfit hheap happ hpre
  have hl0 : l.stackTraces = false := by
    unfold Launch.stackTraces
    rw [hfl]
    decide
  obtain ⟨k, o, h1, h2, h3, rfl, hF⟩ := lw_comes l hl0 p e ha hc hk s m args below hf hfit hheap happ hpre
  exact ⟨k, _, h1, h2, h3, hL args s _, lw_frame hF⟩
theorem i_vc : Claimed_1_1 ∧ Claimed_1_2 := ⟨lw_limb limb_1_1 (fun args s t => by simp [limb_1_1, Cond.after, Cond.holds, Cond.value]), lw_limb limb_1_2 (fun args s t => Cond.after_iff.mpr (by
  first | (rw [show limb_1_2 = Cond.eq .result (.int 1) from rfl, Cond.eq_ints (x := 1) (y := 1) rfl rfl]; simp; done) | (simp [limb_1_2, Cond.value, Term.eval]; done)))⟩
