/-- the words of a throw that move by laws of their own; the texts -/
def zK : List Cond := [.declares ⟨"java/lang/RuntimeException", "<init>", "()V"⟩, .declares ⟨"java/lang/RuntimeException", "<init>", "(Ljava/lang/String;)V"⟩, .declares ⟨"java/lang/Exception", "<init>", "()V"⟩, .declares ⟨"java/lang/Exception", "<init>", "(Ljava/lang/String;)V"⟩, .declares ⟨"java/lang/Throwable", "<init>", "()V"⟩, .declares ⟨"java/lang/Throwable", "<init>", "(Ljava/lang/String;)V"⟩, .castable "java/lang/IllegalStateException" "java/lang/IllegalStateException", .castable "java/lang/IndexOutOfBoundsException" "java/lang/IndexOutOfBoundsException", .castable "java/lang/IllegalArgumentException" "java/lang/IllegalArgumentException"]
def zS : List (Nat × String) := [(67, "there are 6 tasks"), (78, "no such task can be"), (113, "no such slot can be"), (119, "there is no slot"), (140, "not 1 .. 500 ticks"), (148, "the mode is not EDIT"), (150, "the mode is not RUN"), (154, "there is no such number")]
theorem xa_ISE_g : ∀ w ∈ (vx_atS "TabledExecutive" 69 "java/lang/IllegalStateException" ["java/lang/RuntimeException", "java/lang/Exception"]).filter goodWord, w ∈ lw_tbl := by decide +kernel
theorem xa_ISE_n : ∀ w ∈ (vx_atS "TabledExecutive" 69 "java/lang/IllegalStateException" ["java/lang/RuntimeException", "java/lang/Exception"]).filter (fun w => !goodWord w), w ∈ zK := by decide +kernel
theorem xa_ISE_o : ∀ w ∈ Cond.classLink "TabledExecutive" 65 "java/lang/IllegalStateException" :: Cond.initialized "java/lang/IllegalStateException" :: vx_atS "TabledExecutive" 69 "java/lang/IllegalStateException" ["java/lang/RuntimeException", "java/lang/Exception"], vx_ot w = true := by decide +kernel
theorem xa_IOE_g : ∀ w ∈ (vx_atS "TabledExecutive" 156 "java/lang/IndexOutOfBoundsException" ["java/lang/RuntimeException", "java/lang/Exception"]).filter goodWord, w ∈ lw_tbl := by decide +kernel
theorem xa_IOE_n : ∀ w ∈ (vx_atS "TabledExecutive" 156 "java/lang/IndexOutOfBoundsException" ["java/lang/RuntimeException", "java/lang/Exception"]).filter (fun w => !goodWord w), w ∈ zK := by decide +kernel
theorem xa_IOE_o : ∀ w ∈ Cond.classLink "TabledExecutive" 152 "java/lang/IndexOutOfBoundsException" :: Cond.initialized "java/lang/IndexOutOfBoundsException" :: vx_atS "TabledExecutive" 156 "java/lang/IndexOutOfBoundsException" ["java/lang/RuntimeException", "java/lang/Exception"], vx_ot w = true := by decide +kernel
theorem xa_IAE_g : ∀ w ∈ (vx_atS "TabledExecutive" 80 "java/lang/IllegalArgumentException" ["java/lang/RuntimeException", "java/lang/Exception"]).filter goodWord, w ∈ lw_tbl := by decide +kernel
theorem xa_IAE_n : ∀ w ∈ (vx_atS "TabledExecutive" 80 "java/lang/IllegalArgumentException" ["java/lang/RuntimeException", "java/lang/Exception"]).filter (fun w => !goodWord w), w ∈ zK := by decide +kernel
theorem xa_IAE_o : ∀ w ∈ Cond.classLink "TabledExecutive" 76 "java/lang/IllegalArgumentException" :: Cond.initialized "java/lang/IllegalArgumentException" :: vx_atS "TabledExecutive" 80 "java/lang/IllegalArgumentException" ["java/lang/RuntimeException", "java/lang/Exception"], vx_ot w = true := by decide +kernel
theorem zK_on : ∀ w ∈ zK, w.onTables = true := by decide +kernel
theorem zK_warm {w : Cond} {s U : State} (hw : w ∈ zK) (hW : s.WarmedH U.vm) (h : va_Nw w s) : va_Nw w U := by
  simp only [zK, List.mem_cons, List.not_mem_nil, or_false] at hw
  rcases hw with rfl | rfl | rfl | rfl | rfl | rfl | rfl | rfl | rfl
  · exact va_Nw.warmD hW h
  · exact va_Nw.warmD hW h
  · exact va_Nw.warmD hW h
  · exact va_Nw.warmD hW h
  · exact va_Nw.warmD hW h
  · exact va_Nw.warmD hW h
  · exact va_Nw.warmC hW h
  · exact va_Nw.warmC hW h
  · exact va_Nw.warmC hW h
def zKX (sa : Nat → Nat) (A : Nat → Prop) (U : State) (H : Heap) : Prop := (∀ w ∈ zK, va_Nw w U) ∧ (∀ q ∈ zS, vk_R "TabledExecutive" q.1 q.2 (sa q.1) U) ∧ vx_Zq Bundle.tN "UNASSIGNED_STACK" Bundle.steD A U H ∧ vx_Zq Bundle.tN "SUPPRESSED_SENTINEL" Bundle.listD A U H
theorem zKX.same {sa : Nat → Nat} {A : Nat → Prop} {u U : State} {H : Heap} (hv : U.vm = u.vm) (h : zKX sa A u H) : zKX sa A U H := by
  obtain ⟨a, b, c, d⟩ := h
  have al : u.vm.Alike U.vm := by rw [hv]; exact Vm.Alike.refl _
  exact ⟨fun w hw => va_Nw.same (zK_on w hw) hv.symm (a w hw), fun q hq => vk_R.same hv (b q hq), c.moved al, d.moved al⟩
theorem zKX.at {sa : Nat → Nat} {A : Nat → Prop} {s U : State} {H : Heap} {locs : List Loc} {ws : va_W} (h : zKX sa A s s.heap) (hA : ∀ q, s.heap.size ≤ q → A q) (hD : va_D A ws) (hS : va_S A s.heap H locs) (hU : U.heap = H) (hW : s.WarmedH U.vm) : zKX sa (va_A ws U.heap.size) U U.heap := by
  obtain ⟨a, b, c, d⟩ := h
  subst hU
  have hF := xw_free hD hS hA
  exact ⟨fun w hw => zK_warm hw hW (a w hw), fun q hq => vk_R.warm hW (b q hq), ((c.kept hS.2.1).moved hW.alike).narrow hF, ((d.kept hS.2.1).moved hW.alike).narrow hF⟩
theorem zKX.call {sa : Nat → Nat} {ws : va_W} {U : State} {g : JFrame} {mk : MethodId} {a : Array Value} (h : zKX sa (va_A ws U.heap.size) U U.heap) : zKX sa (va_A ws (U.calling g mk a).heap.size) (U.calling g mk a) (U.calling g mk a).heap := by
  have e : (U.calling g mk a).heap = U.heap := rfl
  rw [e]
  exact zKX.same (u := U) (U := U.calling g mk a) rfl h
section ZTH
variable {p : Program} {l : Launch} {e : Env} {R : Room} {s : State} {m : MethodId} {args : Array Value} {below : List Frame} {meth : Method} {c : Code} {cells slots : Nat}
variable {cc : ByteArray} {nL pc : Nat} {own : String} {D : va_G} {cl : List vw_C} {tys : List (ClassId × FieldType)} {A : Nat → Prop} {ws : va_W} {lv : List (Nat × Value)} {rest : List Value}
theorem xw_throwK (C : xw_C p s m args c cc nL own zG D cl tys A s.heap) (hl0 : l.stackTraces = false) (hlk : meth.locks = false) (hno : ∀ x ∈ c.exceptionTable.toList, False) {S : Type} {Qc : Array Value → State → Outcome → State → Prop} {F : S → va_W} {pe : String → S → Prop} {cls text : String} {names : List String} {ik is ic mc ms : Nat} {sa : Nat → Nat}
    (hcls : Bundle.fit cls = true) (hnames : ∀ n ∈ names, Bundle.fit n = true) (hk : Cond.classLink own ik cls ∈ zG) (hini : Cond.initialized cls ∈ zG) (hKX : zKX sa A s s.heap) (hstr : vk_R own is text (sa is) s) (hg : ∀ w ∈ (vx_atS own ic cls names).filter goodWord, w ∈ lw_tbl) (hng : ∀ w ∈ (vx_atS own ic cls names).filter (fun w => !goodWord w), w ∈ zK)
    (hgood : ∀ w ∈ Cond.classLink own ik cls :: Cond.initialized cls :: vx_atS own ic cls names, vx_ot w = true)
    (d0 : decode cc pc = .ok (.new ik, 3)) (d3 : decode cc (pc + 3) = .ok (.dup, 1)) (d4 : decode cc (pc + 4) = .ok (.ldc is, 2)) (d6 : decode cc (pc + 6) = .ok (.invokespecial ic, 3)) (d9 : decode cc (pc + 9) = .ok (.athrow, 1))
    (hRframes : names.length + 3 < R.frames) (hRlocals : (rest.map fun v => v.category).sum + (13 * (names.length + 1) + 43) ≤ R.locals) (hRcells : cells + 1 ≤ R.cells) (hRslots : slots + 6 ≤ R.slots)
    (u : S) (hF : F u = ws) (hu : pe cls u) (hc : cells + 1 ≤ mc) (hs : slots + 6 ≤ ms) :
    XW p l e R s m args below meth c D cl A s.heap nL ws cells slots (vx_MQ below Qc (xw_XC D cl tys A F pe) args s mc ms A) pc lv rest := by
  subst hF
  intro H locs ls hP hD hS hl
  have hat : ∀ w ∈ vx_atS own ic cls names, w.before args s = true := by
    intro w hw
    by_cases g : goodWord w = true
    · exact C.2.2.2.2.1 w (List.mem_filter.mpr ⟨hg w (List.mem_filter.mpr ⟨hw, g⟩), g⟩)
    · have hz := hng w (List.mem_filter.mpr ⟨hw, by simpa using g⟩)
      exact va_Nw.use (zK_on w hz) (hKX.1 w hz)
  refine vx_throwS C.1 C.2.1 hl0 C.2.2.2.1 hcls hnames (C.2.2.2.2.1 _ hk) (C.2.2.2.2.1 _ hini) hstr hat hgood hKX.2.2.1 hKX.2.2.2 hS (hl.1.trans C.2.2.1.symm) d0 d3 d4 d6 d9 (fun x hx => (hno x hx).elim) hRframes hRlocals hRcells hRslots hlk (fun t hal hsz hkp => ?_) hS.2.2 hc hs
  have hP1 : va_P D cl (F u) t.heap := hP.kept (fun k q hk => hkp q.1 (vx_lt hP hk))
  refine ⟨u, trivial, ⟨hu, hP1, va_K.moved hal C.2.2.2.2.2.1, hD⟩, ?_⟩
  refine ⟨Nat.le_trans hS.1 hsz, fun q h1 h2 => ?_⟩
  rw [hkp q (Nat.lt_of_lt_of_le h1 hS.1)]
  exact hS.2.1 q h1 h2
end ZTH

set_option maxHeartbeats 4000000 in
set_option maxRecDepth 100000 in
/-- needEdit -/
theorem c_Ex_needEdit (l : Launch) (hl0 : l.stackTraces = false) (D : va_G) (ca : Nat → ClassId) (ad : Nat → Nat) (M : Nat → Nat → Int32) (sa : Nat → Nat) (md : Nat) (hmd : M 0 0 = nI md) (hmb : md ≤ 1) : xw_Xv l y_Ex_needEdit (.code y_Ex_needEdit b_Ex_needEdit 1 none :: zG) { frames := 6, cells := 1, slots := 6, locals := 82 } D zCl (zT ca) [.ref (ad 0)] (zW ca ad M) (fun U => zKX sa (va_A (zW ca ad M) U.heap.size) U U.heap) 1 6 (zW ca ad) (fun M' => M' = M ∧ md = 0) (fun E M' => M' = M ∧ E = "java/lang/IllegalStateException" ∧ md = 1) := by
  intro sz
  refine xw_metX (cc := b_Ex_needEdit) (maxL := 1) (ret := none) (by decide) rfl (Nat.le_of_ble_eq_true rfl) (fun p e s m args below meth c hr hlk hno hsz hKs C => ?_)
  rw [hsz] at hKs
  have hKs : zKX sa (va_A (zW ca ad M) sz) s s.heap := hKs
  refine xw_lvE (lv' := [(0, .ref (ad 0))]) rfl ?_
  refine xw_aload_n C 0 d_Ex_needEdit_0 rfl rfl (pc' := 1) rfl ?_
  refine xw_get C u_Ex 0 zr_0 rfl 5 (by decide) k_187 rfl rfl d_Ex_needEdit_1 (pc' := 4) rfl ?_
  refine xw_topi (y := nI md) hmd ?_
  refine xw_if_eq C (tgt := 17) d_Ex_needEdit_4 (by decide) (pc' := 7) rfl (fun h4 => ?_) (fun h4 => ?_)
  ·
    replace h4 : md = 0 := (xp_eq0 (by omega)).mp h4
    refine xw_vretX C hr hlk (F := zW ca ad) M rfl ?_ d_Ex_needEdit_17 (by decide) (by decide)
    exact ⟨rfl, by omega⟩
  ·
    replace h4 : ¬ (md = 0) := fun hneg => h4 ((xp_eq0 (by omega)).mpr hneg)
    refine xw_throwK C hl0 hlk hno (names := ["java/lang/RuntimeException", "java/lang/Exception"]) (by decide) (by decide) k_240 k_35 hKs (hKs.2.1 (148, "the mode is not EDIT") (by decide)) xa_ISE_g xa_ISE_n xa_ISE_o d_Ex_needEdit_7 d_Ex_needEdit_10 d_Ex_needEdit_11 d_Ex_needEdit_13 d_Ex_needEdit_16 (by decide) (by decide) (by decide) (by decide) (F := zW ca ad) M rfl ?_ (by decide) (by decide)
    exact ⟨rfl, rfl, by omega⟩

set_option maxHeartbeats 4000000 in
set_option maxRecDepth 100000 in
/-- needRun -/
theorem c_Ex_needRun (l : Launch) (hl0 : l.stackTraces = false) (D : va_G) (ca : Nat → ClassId) (ad : Nat → Nat) (M : Nat → Nat → Int32) (sa : Nat → Nat) (md : Nat) (hmd : M 0 0 = nI md) (hmb : md ≤ 1) : xw_Xv l y_Ex_needRun (.code y_Ex_needRun b_Ex_needRun 1 none :: zG) { frames := 6, cells := 1, slots := 6, locals := 82 } D zCl (zT ca) [.ref (ad 0)] (zW ca ad M) (fun U => zKX sa (va_A (zW ca ad M) U.heap.size) U U.heap) 1 6 (zW ca ad) (fun M' => M' = M ∧ md = 1) (fun E M' => M' = M ∧ E = "java/lang/IllegalStateException" ∧ md = 0) := by
  intro sz
  refine xw_metX (cc := b_Ex_needRun) (maxL := 1) (ret := none) (by decide) rfl (Nat.le_of_ble_eq_true rfl) (fun p e s m args below meth c hr hlk hno hsz hKs C => ?_)
  rw [hsz] at hKs
  have hKs : zKX sa (va_A (zW ca ad M) sz) s s.heap := hKs
  refine xw_lvE (lv' := [(0, .ref (ad 0))]) rfl ?_
  refine xw_aload_n C 0 d_Ex_needRun_0 rfl rfl (pc' := 1) rfl ?_
  refine xw_get C u_Ex 0 zr_0 rfl 5 (by decide) k_187 rfl rfl d_Ex_needRun_1 (pc' := 4) rfl ?_
  refine xw_topi (y := nI md) hmd ?_
  refine xw_if_ne C (tgt := 17) d_Ex_needRun_4 (by decide) (pc' := 7) rfl (fun h4 => ?_) (fun h4 => ?_)
  ·
    replace h4 : ¬ (md = 0) := fun hneg => h4 ((xp_eq0 (by omega)).mpr hneg)
    refine xw_vretX C hr hlk (F := zW ca ad) M rfl ?_ d_Ex_needRun_17 (by decide) (by decide)
    exact ⟨rfl, by omega⟩
  ·
    replace h4 : md = 0 := (xp_eq0 (by omega)).mp h4
    refine xw_throwK C hl0 hlk hno (names := ["java/lang/RuntimeException", "java/lang/Exception"]) (by decide) (by decide) k_240 k_35 hKs (hKs.2.1 (150, "the mode is not RUN") (by decide)) xa_ISE_g xa_ISE_n xa_ISE_o d_Ex_needRun_7 d_Ex_needRun_10 d_Ex_needRun_11 d_Ex_needRun_13 d_Ex_needRun_16 (by decide) (by decide) (by decide) (by decide) (F := zW ca ad) M rfl ?_ (by decide) (by decide)
    exact ⟨rfl, rfl, by omega⟩

set_option maxHeartbeats 4000000 in
set_option maxRecDepth 100000 in
/-- needIndex -/
theorem c_Ex_needIndex (l : Launch) (hl0 : l.stackTraces = false) (D : va_G) (ca : Nat → ClassId) (ad : Nat → Nat) (M : Nat → Nat → Int32) (sa : Nat → Nat) (x y : Int32)  : xw_Xv l y_Ex_needIndex (.code y_Ex_needIndex b_Ex_needIndex 2 none :: zG) { frames := 6, cells := 1, slots := 6, locals := 82 } D zCl (zT ca) [.int x, .int y] (zW ca ad M) (fun U => zKX sa (va_A (zW ca ad M) U.heap.size) U U.heap) 1 6 (zW ca ad) (fun M' => M' = M ∧ ¬ x < 0 ∧ x < y) (fun E M' => M' = M ∧ E = "java/lang/IndexOutOfBoundsException" ∧ ¬ (¬ x < 0 ∧ x < y)) := by
  intro sz
  refine xw_metX (cc := b_Ex_needIndex) (maxL := 2) (ret := none) (by decide) rfl (Nat.le_of_ble_eq_true rfl) (fun p e s m args below meth c hr hlk hno hsz hKs C => ?_)
  rw [hsz] at hKs
  have hKs : zKX sa (va_A (zW ca ad M) sz) s s.heap := hKs
  refine xw_lvE (lv' := [(0, .int x), (1, .int y)]) rfl ?_
  refine xw_iload_n C 0 d_Ex_needIndex_0 rfl rfl (pc' := 1) rfl ?_
  refine xw_if_lt C (tgt := 9) d_Ex_needIndex_1 (by decide) (pc' := 4) rfl (fun h1 => ?_) (fun h1 => ?_)
  ·
    refine xw_throwK C hl0 hlk hno (names := ["java/lang/RuntimeException", "java/lang/Exception"]) (by decide) (by decide) k_311 k_36 hKs (hKs.2.1 (154, "there is no such number") (by decide)) xa_IOE_g xa_IOE_n xa_IOE_o d_Ex_needIndex_9 d_Ex_needIndex_12 d_Ex_needIndex_13 d_Ex_needIndex_15 d_Ex_needIndex_18 (by decide) (by decide) (by decide) (by decide) (F := zW ca ad) M rfl ?_ (by decide) (by decide)
    exact ⟨rfl, rfl, fun h9 => by first | exact h9.1 h1 | exact h6 h9.2⟩
  ·
    refine xw_iload_n C 0 d_Ex_needIndex_4 rfl rfl (pc' := 5) rfl ?_
    refine xw_iload_n C 1 d_Ex_needIndex_5 rfl rfl (pc' := 6) rfl ?_
    refine xw_icmp_lt C (tgt := 19) d_Ex_needIndex_6 (by decide) (pc' := 9) rfl (fun h6 => ?_) (fun h6 => ?_)
    ·
      refine xw_vretX C hr hlk (F := zW ca ad) M rfl ?_ d_Ex_needIndex_19 (by decide) (by decide)
      exact ⟨rfl, h1, h6⟩
    ·
      refine xw_throwK C hl0 hlk hno (names := ["java/lang/RuntimeException", "java/lang/Exception"]) (by decide) (by decide) k_311 k_36 hKs (hKs.2.1 (154, "there is no such number") (by decide)) xa_IOE_g xa_IOE_n xa_IOE_o d_Ex_needIndex_9 d_Ex_needIndex_12 d_Ex_needIndex_13 d_Ex_needIndex_15 d_Ex_needIndex_18 (by decide) (by decide) (by decide) (by decide) (F := zW ca ad) M rfl ?_ (by decide) (by decide)
      exact ⟨rfl, rfl, fun h9 => by first | exact h9.1 h1 | exact h6 h9.2⟩
