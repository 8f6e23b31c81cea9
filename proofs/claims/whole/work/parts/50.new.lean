/-- the five links between nest mates -/
def zN : List Cond := [.methodLinkNest "TabledExecutive$TaskList" 17 ⟨"TabledExecutive$Task", "<init>", "()V"⟩ "TabledExecutive", .methodLinkNest "TabledExecutive$Task" 17 ⟨"TabledExecutive$Job", "<init>", "()V"⟩ "TabledExecutive", .methodLinkNest "TabledExecutive" 18 ⟨"TabledExecutive$Table", "<init>", "()V"⟩ "TabledExecutive", .methodLinkNest "TabledExecutive" 25 ⟨"TabledExecutive$Planner", "<init>", "()V"⟩ "TabledExecutive", .methodLinkNest "TabledExecutive" 32 ⟨"TabledExecutive$Machine", "<init>", "()V"⟩ "TabledExecutive"]
theorem zN_on : ∀ w ∈ zN, w.onTables = true := by decide +kernel
theorem zN_warm {w : Cond} {s U : State} (hw : w ∈ zN) (hW : s.WarmedH U.vm) (h : va_Nw w s) : va_Nw w U := by
  simp only [zN, List.mem_cons, List.not_mem_nil, or_false] at hw
  rcases hw with rfl | rfl | rfl | rfl | rfl
  · exact va_Nw.warmM hW h
  · exact va_Nw.warmM hW h
  · exact va_Nw.warmM hW h
  · exact va_Nw.warmM hW h
  · exact va_Nw.warmM hW h
def zNK : State → Prop := fun U => ∀ w ∈ zN, va_Nw w U
theorem zNK.call {U : State} {g : JFrame} {mk : MethodId} {a : Array Value} (h : zNK U) : zNK (U.calling g mk a) := fun w hw => va_Nw.same (zN_on w hw) (u := U) (U := U.calling g mk a) rfl (h w hw)
theorem zNK.warm {s U : State} (h : zNK s) (hW : s.WarmedH U.vm) : zNK U := fun w hw => zN_warm hw hW (h w hw)
theorem xr_nm {U : State} {c : ClassId} {t : FieldType} (h : va_RA U c t) : U.vm.findClass ("[" ++ t.toString) = some c := by
  cases t <;> first | exact h | (obtain ⟨_, _, _, _, _, h5⟩ := h; exact h5)
theorem xe_at {E l : va_W} (k : Nat) : (E ++ l)[E.length + k]? = l[k]? := by
  rw [List.getElem?_append_right (Nat.le_add_right _ _), Nat.add_sub_cancel_left]
theorem xe_set {E l : va_W} (k : Nat) (v : Nat × va_E) : (E ++ l).set (E.length + k) v = E ++ l.set k v := by
  rw [List.set_append_right _ _ (Nat.le_add_right _ _), Nat.add_sub_cancel_left]
section XNEW
variable {p : Program} {l : Launch} {e : Env} {R : Room} {s : State} {m : MethodId} {args : Array Value} {below : List Frame} {meth : Method} {c : Code} {cells slots : Nat} {Q : State → Prop}
variable {cc : ByteArray} {nL pc pc' : Nat} {own : String} {Ts : List Cond} {D : va_G} {cl : List vw_C} {tys : List (ClassId × FieldType)} {A : Nat → Prop} {H0 : Heap} {ws : va_W} {lv : List (Nat × Value)} {rest st : List Value}
theorem xw_new (C : xw_C p s m args c cc nL own Ts D cl tys A H0) {Cn : String} {T : u_T} {N ci index : Nat} (hin : ∀ w ∈ u_ws Cn T N, w ∈ Ts) (ty : Nat → FieldType) (hty : ∀ k, k < N → parseFieldDescriptor (T k).2.2.1 = some (ty k)) (hcl : Cond.classLink own index Cn ∈ Ts) (hinst : Cond.instantiable Cn N ∈ Ts) (hini : Cond.initialized Cn ∈ Ts) (hc : cl[ci]? = some (Cn, T, N)) (fs : List Value) (hfs : ∀ j, j < N → defaultValue (ty j) = vp_V fs j) (hcells : cells + 1 ≤ R.cells) (hslots : slots + N ≤ R.slots) (hdg : decode cc pc = .ok (.new index, 3)) (hp : pc + 3 = pc')
    (kk : ∀ q : Nat, XW p l e R s m args below meth c D cl A H0 nL (ws ++ [(q, .inr (ci, fs))]) (cells + 1) (slots + N) Q pc' lv (.ref q :: rest)) : XW p l e R s m args below meth c D cl A H0 nL ws cells slots Q pc lv rest := by
  subst hp
  intro H locs ls hP hD hS hl
  exact va_new C.1 C.2.1 C.2.2.2.2.1 hin ty hty C.2.2.2.1 (C.2.2.2.2.1 _ hcl) (C.2.2.2.2.1 _ hinst) (C.2.2.2.2.1 _ hini) C.2.2.2.2.2.1 hP hD hS C.2.2.2.2.2.2 hc hfs hcells hslots hdg (fun q H1 hP1 hD1 hS1 => kk q H1 locs ls hP1 hD1 hS1 hl)
theorem xw_newa (C : xw_C p s m args c cc nL own Ts D cl tys A H0) {atype : ArrayType} {ty : FieldType} (harr : Cond.arrayClass ty ∈ Ts) (hty : newarray.typeOf atype = ty) (t0 : Nat) {cA0 : ClassId} (ht : tys[t0]? = some (cA0, ty)) (a0 : vp_A) {N' : Nat} (ha : ∀ cA : ClassId, vp_cell cA a0 = arrV cA N' (fun _ => defaultValue ty)) {n : Int32} (hn : ¬ n < 0) (hN : n.toNatClampNeg = N') (hbytes : N' * componentBytes ty ≤ 536870912) (hcells : cells + 1 ≤ R.cells) (hslots : slots + N' ≤ R.slots) (hdg : decode cc pc = .ok (.newarray atype, 2)) (hp : pc + 2 = pc')
    (kk : ∀ q : Nat, XW p l e R s m args below meth c D cl A H0 nL (ws ++ [(q, .inl (cA0, a0))]) (cells + 1) (slots + N') Q pc' lv (.ref q :: rest)) : XW p l e R s m args below meth c D cl A H0 nL ws cells slots Q pc lv (.int n :: rest) := by
  subst hp
  intro H locs ls hP hD hS hl
  refine va_newa C.1 C.2.1 (by rw [hty]; exact C.2.2.2.2.1 _ harr) hty C.2.2.2.2.2.1 hP hD hS C.2.2.2.2.2.2 ha hn hN hbytes hcells hslots hdg (fun q cA H1 hK1 hP1 hD1 hS1 => ?_)
  have e : cA = cA0 := by
    have a := xr_nm (C.2.2.2.2.2.1.2 t0 _ ht).2
    have b := xr_nm (hK1.2 tys.length (cA, ty) (by rw [List.getElem?_append_right (Nat.le_refl _), Nat.sub_self]; rfl)).2
    exact Option.some.inj (b.symm.trans a)
  subst e
  exact kk q H1 locs ls hP1 hD1 hS1 hl
theorem xw_newq (C : xw_C p s m args c cc nL own Ts D cl tys A H0) {Cn : String} {index : Nat} (hclink : Cond.classLink own index Cn ∈ Ts) (hover : va_AO Cn s) (t0 : Nat) {cA0 : ClassId} (ht : tys[t0]? = some (cA0, .object Cn)) {n : Int32} {N' : Nat} (hn : ¬ n < 0) (hN : n.toNatClampNeg = N') (hbytes : N' * 4 ≤ 536870912) (hcells : cells + 1 ≤ R.cells) (hslots : slots + N' ≤ R.slots) (hdg : decode cc pc = .ok (.anewarray index, 3)) (hp : pc + 3 = pc')
    (kk : ∀ q : Nat, XW p l e R s m args below meth c D cl A H0 nL (ws ++ [(q, .inl (cA0, N', .inr (.inr (.inr (.inr (fun _ => none))))))]) (cells + 1) (slots + N') Q pc' lv (.ref q :: rest)) : XW p l e R s m args below meth c D cl A H0 nL ws cells slots Q pc lv (.int n :: rest) := by
  subst hp
  intro H locs ls hP hD hS hl
  refine va_newq C.1 C.2.1 C.2.2.2.1 (C.2.2.2.2.1 _ hclink) hover C.2.2.2.2.2.1 hP hD hS C.2.2.2.2.2.2 hn hN hbytes hcells hslots hdg (fun q cA H1 hK1 hP1 hD1 hS1 => ?_)
  have e : cA = cA0 := by
    have a := xr_nm (C.2.2.2.2.2.1.2 t0 _ ht).2
    have b := xr_nm (hK1.2 tys.length (cA, .object Cn) (by rw [List.getElem?_append_right (Nat.le_refl _), Nat.sub_self]; rfl)).2
    exact Option.some.inj (b.symm.trans a)
  subst e
  exact kk q H1 locs ls hP1 hD1 hS1 hl
theorem xw_putF (C : xw_C p s m args c cc nL own Ts D cl tys A H0) (hnm0 : meth.name = "<init>") {ref Cn : String} {T : u_T} {N ci index a : Nat} (hin : ∀ w ∈ u_ws Cn T N, w ∈ Ts) (ty0 : Nat → FieldType) (hty : ∀ k, k < N → parseFieldDescriptor (T k).2.2.1 = some (ty0 k)) (hnm : ∀ a, a < N → ∀ b, b < N → a ≠ b → (T a).2.1 ≠ (T b).2.1) (q0 : Nat) {fs : List Value} (he : ws[q0]? = some (a, .inr (ci, fs))) (hc : cl[ci]? = some (Cn, T, N)) (k : Nat) (hk : k < N) (hlink : Cond.fieldLink own index ref (T k).2.1 (T k).2.2.1 ∈ Ts) (hsame : ref = (T k).1) (hfin : (T k).2.2.2 = true) (hdecl : (T k).1 = own) {ty : FieldType} {v : Value} (hd : parseFieldDescriptor (T k).2.2.1 = some ty) (hn : narrow ty v = v) (hfit : fits ty v = true) (hlen : k < fs.length) {ws' : va_W} (hws : ws.set q0 (a, .inr (ci, fs.set k v)) = ws') (hdg : decode cc pc = .ok (.putfield index, 3)) (hp : pc + 3 = pc')
    (kk : XW p l e R s m args below meth c D cl A H0 nL ws' cells slots Q pc' lv rest) : XW p l e R s m args below meth c D cl A H0 nL ws cells slots Q pc lv (v :: .ref a :: rest) := by
  subst hp; subst hsame; subst hws
  exact fun H locs ls hP hD hS hl => va_putF (D := D) C.1 C.2.1 C.2.2.2.2.1 hin ty0 hty hnm C.2.2.2.1 C.2.2.2.2.2.1 hP hD hS q0 he hc k hk (C.2.2.2.2.1 _ hlink) (fun _ h9 => h9) hfin hnm0 hdecl hd hn hfit hlen hdg (fun H1 locs1 hP1 hD1 hS1 => kk H1 locs1 ls hP1 hD1 hS1 hl)
theorem xw_astq (C : xw_C p s m args c cc nL own Ts D cl tys A H0) (q0 t0 qk ci : Nat) {cA : ClassId} {r : vw_C} {n v a : Nat} {vs : List Value} {f : Nat → Option Nat} (ha : ws[q0]? = some (a, .inl (cA, n, .inr (.inr (.inr (.inr f)))))) (ht : tys[t0]? = some (cA, .object r.1)) (hv : ws[qk]? = some (v, .inr (ci, vs))) (hc : cl[ci]? = some r) {i : Int32} (j : Nat) (hi : i = nI j) (hj : j < n) (hn : n < 2 ^ 31) {ws' : va_W} (hws : ws.set q0 (a, .inl (cA, n, .inr (.inr (.inr (.inr (va_up f j (some v))))))) = ws') (hdg : decode cc pc = .ok (.aastore, 1)) (hp : pc + 1 = pc')
    (kk : XW p l e R s m args below meth c D cl A H0 nL ws' cells slots Q pc' lv rest) : XW p l e R s m args below meth c D cl A H0 nL ws cells slots Q pc lv (.ref v :: .int i :: .ref a :: rest) := by
  subst hp; subst hi; subst hws
  refine fun H locs ls hP hD hS hl => va_astq C.1 C.2.1 C.2.2.2.2.2.1 hP hD hS q0 t0 qk ci ha ht hv hc (vp_in_nI hj hn) hdg (fun H1 locs1 hP1 hD1 hS1 => ?_)
  rw [nI_clamp (by omega)] at hP1 hD1
  exact kk H1 locs1 ls hP1 hD1 hS1 hl
theorem xw_objInit (C : xw_C p s m args c cc nL own Ts D cl tys A H0) {idx a : Nat} (hlink : Cond.methodLink own idx Lib.objectInit ∈ Ts) (hinst : Cond.instanceMethod Lib.objectInit ∈ Ts) (hcode : Cond.code Lib.objectInit ⟨#[0xb1]⟩ 1 none ∈ Ts) (hframes : 1 ≤ R.frames) (hlocals : (rest.map fun v => v.category).sum + 12 ≤ R.locals) (hd : decode cc pc = .ok (.invokespecial idx, 3)) (hp : pc + 3 = pc')
    (kk : XW p l e R s m args below meth c D cl A H0 nL ws cells slots Q pc' lv rest) : XW p l e R s m args below meth c D cl A H0 nL ws cells slots Q pc lv (.ref a :: rest) := by
  subst hp
  exact fun H locs ls hP hD hS hl => W.objInit C.1 C.2.1 C.2.2.2.1 (C.2.2.2.2.1 _ hlink) (C.2.2.2.2.1 _ hinst) (C.2.2.2.2.1 _ hcode) rfl (hl.1.trans C.2.2.1.symm) rfl hd hframes (by show 2 * 0 + _ + 12 ≤ _; omega) (kk H locs ls hP hD hS hl)
theorem xw_callIv (C : xw_C p s m args c cc nL own Ts D cl tys A H0) {S : Type} {y : MethodName} {ws1 : List Cond} {rm : Room} {b : Nat} {As : List Value} {K : State → Prop} {mc ms : Nat} {F : S → va_W} {post : S → Prop} {index maxL n : Nat} {bytes : ByteArray}
    (hM : xw_Mv l y ws1 rm D cl tys (.ref b :: As) ws K mc ms F post) (cw : CallB R s args own index y bytes maxL none ws1 rm mc ms n ∧ y.name = "<init>" ∧ (Cond.instanceMethod y).before args s = true)
    (hKb : ∀ (U : State) (g : JFrame) (mk : MethodId) (a : Array Value), K U → K (U.calling g mk a)) (hKc : ∀ (H : Heap) (locs : List Loc) (U : State), va_D A ws → va_S A H0 H locs → U.heap = H → s.WarmedH U.vm → K U)
    (hn : As.length = n) (hst : st = As.reverse ++ .ref b :: rest) (hW8 : (rest.map fun v => v.category).sum ≤ 8) (hdg : decode cc pc = .ok (.invokespecial index, 3)) (hf : cells + mc ≤ R.cells ∧ slots + ms ≤ R.slots) (hp : pc + 3 = pc')
    (kk : ∀ (u : S), post u → XW p l e R s m args below meth c D cl A H0 nL (F u) (cells + mc) (slots + ms) Q pc' lv rest) : XW p l e R s m args below meth c D cl A H0 nL ws cells slots Q pc lv st := by
  subst hp
  intro H locs ls hP hD hS hl
  have hFc := xw_free hD hS C.2.2.2.2.2.2
  refine va_callv (va_runI (rest := rest) ⟨C.1, C.2.1, C.2.2.1, C.2.2.2.1, C.2.2.2.2.1⟩ (hM H.size) cw ⟨xw_blind hKb, fun U hU hW => ⟨rfl, by rw [hU], by rw [hU]; exact hP, va_K.moved hW.alike C.2.2.2.2.2.1, hD.weaken (fun _ _ _ _ => trivial), hKc H locs U hD hS hU hW⟩⟩ rfl hn hl.1 hst (lv_room hW8) hdg hf) hS (fun q _ h => hFc q h) hFc (fun u t H1 locs1 ht hvm hpost hB hz1 hk1 hS1 => ?_)
  obtain ⟨hP1, hK1, hD1⟩ := hB
  rw [ht] at hP1
  exact kk u hpost H1 locs1 ls hP1 (hD1.weaken (fun k q _ h => hFc _ h)) hS1 hl
theorem xw_callINv (C : xw_C p s m args c cc nL own Ts D cl tys A H0) {S : Type} {y : MethodName} {host : String} {ws1 : List Cond} {rm : Room} {b : Nat} {As : List Value} {K : State → Prop} {mc ms : Nat} {F : S → va_W} {post : S → Prop} {index maxL n : Nat} {bytes : ByteArray}
    (hM : xw_Mv l y ws1 rm D cl tys (.ref b :: As) ws K mc ms F post) (cw : va_CN R s args own index y host bytes maxL none ws1 rm mc ms n ∧ y.name = "<init>" ∧ (Cond.instanceMethod y).before args s = true)
    (hKb : ∀ (U : State) (g : JFrame) (mk : MethodId) (a : Array Value), K U → K (U.calling g mk a)) (hKc : ∀ (H : Heap) (locs : List Loc) (U : State), va_D A ws → va_S A H0 H locs → U.heap = H → s.WarmedH U.vm → K U)
    (hn : As.length = n) (hst : st = As.reverse ++ .ref b :: rest) (hW8 : (rest.map fun v => v.category).sum ≤ 8) (hdg : decode cc pc = .ok (.invokespecial index, 3)) (hf : cells + mc ≤ R.cells ∧ slots + ms ≤ R.slots) (hp : pc + 3 = pc')
    (kk : ∀ (u : S), post u → XW p l e R s m args below meth c D cl A H0 nL (F u) (cells + mc) (slots + ms) Q pc' lv rest) : XW p l e R s m args below meth c D cl A H0 nL ws cells slots Q pc lv st := by
  subst hp
  intro H locs ls hP hD hS hl
  have hFc := xw_free hD hS C.2.2.2.2.2.2
  refine va_callv (va_runIN (rest := rest) ⟨C.1, C.2.1, C.2.2.1, C.2.2.2.1, C.2.2.2.2.1⟩ (hM H.size) cw ⟨xw_blind hKb, fun U hU hW => ⟨rfl, by rw [hU], by rw [hU]; exact hP, va_K.moved hW.alike C.2.2.2.2.2.1, hD.weaken (fun _ _ _ _ => trivial), hKc H locs U hD hS hU hW⟩⟩ rfl hn hl.1 hst (lv_room hW8) hdg hf) hS (fun q _ h => hFc q h) hFc (fun u t H1 locs1 ht hvm hpost hB hz1 hk1 hS1 => ?_)
  obtain ⟨hP1, hK1, hD1⟩ := hB
  rw [ht] at hP1
  exact kk u hpost H1 locs1 ls hP1 (hD1.weaken (fun k q _ h => hFc _ h)) hS1 hl
theorem zg_CN (C : xw_C p s m args c cc nL own zG D cl tys A H0) (n : Nat) {index maxL : Nat} {y : MethodName} {host : String} {bytes : ByteArray} {ret : Option FieldType} {rm : Room} (hN : zNK s) (hl : Cond.methodLinkNest own index y host ∈ zN) (hini : Cond.initialized y.cls ∈ zG) (h5 : Cond.code y bytes maxL ret ∈ zG)
    (hd : y.cls ≠ "java/lang/invoke/MethodHandle" ∧ y.cls ≠ "java/lang/invoke/VarHandle" ∧ (parseMethodDescriptor y.desc).map (fun d => d.parameters.length) = some n) (hR : rm.frames + 1 ≤ R.frames ∧ 8 + (maxL + 11) + rm.locals ≤ R.locals) :
    va_CN R s args own index y host bytes maxL ret (Cond.code y bytes maxL ret :: zG) rm rm.cells rm.slots n :=
  va_cnB n C.2.2.2.2.1 (zg_in h5) rfl rfl rfl (hN _ hl) (C.2.2.2.2.1 _ hini) hd hR
end XNEW
