theorem xp_minI {k : Nat} (hk : k ≤ 60) : (if nI 60 < nI (k + 1) then nI 60 else nI (k + 1)) = nI (if 60 < k + 1 then 60 else k + 1) := by
  by_cases c9 : 60 < k + 1
  · rw [if_pos c9, if_pos ((nI_ltI (by omega) (by omega)).mpr c9)]
  · rw [if_neg c9, if_neg (fun h9 => c9 ((nI_ltI (by omega) (by omega)).mp h9))]
theorem xp_ix {x : Int32} {n : Nat} (hn : n < 2 ^ 31) (h0 : ¬ x < 0) (h1 : x < nI n) : ∃ j, j < n ∧ x = nI j := by
  obtain ⟨j, hj, rfl⟩ := nI_of h0
  exact ⟨j, (nI_ltI hj hn).mp h1, rfl⟩
theorem xp_rg {x : Int32} {a b : Nat} (ha : a < 2 ^ 31) (hb : b < 2 ^ 31) (h0 : ¬ x < nI a) (h1 : ¬ nI b < x) : ∃ j, a ≤ j ∧ j ≤ b ∧ x = nI j := by
  have e0 : ¬ x < 0 := fun h => h0 (Int32.lt_of_lt_of_le h (nI_pos' ha))
  obtain ⟨j, hj, rfl⟩ := nI_of e0
  refine ⟨j, ?_, ?_, rfl⟩
  · rcases Nat.lt_or_ge j a with c | c
    · exact absurd ((nI_ltI hj ha).mpr c) h0
    · exact c
  · rcases Nat.lt_or_ge b j with c | c
    · exact absurd ((nI_ltI hb hj).mpr c) h1
    · exact c
/-- a task as isTask wants it -/
def sp_isT (p w d o : Int32) : Prop := ¬ p < nI 1 ∧ ¬ nI 48 < p ∧ ¬ w < nI 1 ∧ ¬ d < w ∧ ¬ p < d ∧ ¬ o < 0 ∧ ¬ nI 48 < o

set_option maxHeartbeats 4000000 in
set_option maxRecDepth 100000 in
/-- load -/
theorem c_Ex_load (l : Launch) (hl0 : l.stackTraces = false) (D : va_G) (ca : Nat → ClassId) (ad : Nat → Nat) (M : Nat → Nat → Int32) (sa : Nat → Nat) (md : Nat) (x v : Int32) (hmd : M 0 0 = nI md) (hmb : md ≤ 1) : xw_Xv l y_Ex_load (.code y_Ex_load b_Ex_load 3 none :: zG) { frames := 7, cells := 2, slots := 12, locals := 120 } D zCl (zT ca) [.ref (ad 0), .int x, .int v] (zW ca ad M) (fun U => zKX sa (va_A (zW ca ad M) U.heap.size) U U.heap) 2 12 (zW ca ad) (fun M' => md = 0 ∧ ∃ j, j < 64 ∧ x = nI j ∧ M' = zst M 11 j v) (fun E M' => M' = M ∧ (md = 1 ∧ E = "java/lang/IllegalStateException" ∨ md = 0 ∧ E = "java/lang/IndexOutOfBoundsException" ∧ ¬ (¬ x < 0 ∧ x < nI 64))) := by
  intro sz
  refine xw_metX (cc := b_Ex_load) (maxL := 3) (ret := none) (by decide) rfl (Nat.le_of_ble_eq_true rfl) (fun p e s m args below meth c hr hlk hno hsz hKs C => ?_)
  rw [hsz] at hKs
  have hKs : zKX sa (va_A (zW ca ad M) sz) s s.heap := hKs
  refine xw_lvE (lv' := [(0, .ref (ad 0)), (1, .int x), (2, .int v)]) rfl ?_
  refine xw_aload_n C 0 d_Ex_load_0 rfl rfl (pc' := 1) rfl ?_
  refine xw_callXVv C (c_Ex_needEdit l hl0 D ca ad M sa md hmd hmb) ⟨zg_B C 0 k_236 k_24 k_239 q_Ex_needEdit ⟨by decide, by decide⟩, C.2.2.2.2.1 _ k_238, C.2.2.2.2.1 _ k_1⟩ 0 zr_0 rfl rfl (fun _ _ _ _ h => h.call) (fun _ _ _ hD hS hU hW => hKs.at C.2.2.2.2.2.2 hD hS hU hW) rfl rfl (Nat.le_of_ble_eq_true rfl) d_Ex_load_1 ⟨by decide, by decide⟩ (pc' := 4) rfl (fun E u hx => xx_out C hlk hno (F := zW ca ad) u rfl (by exact ⟨hx.1, Or.inl ⟨hx.2.2, hx.2.1⟩⟩) (by decide) (by decide)) (fun M2 hp3 => ?_)
  obtain ⟨hme, hmd0⟩ := hp3
  rw [hme]
  clear hme
  refine xw_iload_n C 1 d_Ex_load_4 rfl rfl (pc' := 5) rfl ?_
  refine xw_bipush C (v := nI 64) d_Ex_load_5 (by decide) (pc' := 7) rfl ?_
  refine xw_callXSv C (c_Ex_needIndex l hl0 D ca ad M sa x (nI 64)) ⟨zg_B C 2 k_308 k_24 k_310 q_Ex_needIndex ⟨by decide, by decide⟩, C.2.2.2.2.1 _ k_309⟩ (fun _ _ _ _ h => h.call) (fun _ _ _ hD hS hU hW => hKs.at C.2.2.2.2.2.2 hD hS hU hW) rfl rfl (Nat.le_of_ble_eq_true rfl) d_Ex_load_7 ⟨by decide, by decide⟩ (pc' := 10) rfl (fun E u hx => xx_out C hlk hno (F := zW ca ad) u rfl (by exact ⟨hx.1, Or.inr ⟨hmd0, hx.2.1, hx.2.2⟩⟩) (by decide) (by decide)) (fun M5 hp6 => ?_)
  obtain ⟨hme, hi0, hi1⟩ := hp6
  rw [hme]
  clear hme
  obtain ⟨j, hb_j, he_j⟩ := xp_ix (n := 64) (by omega) hi0 hi1
  subst he_j
  refine xw_aload_n C 0 d_Ex_load_10 rfl rfl (pc' := 11) rfl ?_
  refine xw_get C u_Ex 0 zr_0 rfl 3 (by decide) k_185 rfl rfl d_Ex_load_11 (pc' := 14) rfl ?_
  refine xw_get C u_Mc 10 zr_10 rfl 0 (by decide) k_174 rfl rfl d_Ex_load_14 (pc' := 17) rfl ?_
  refine xw_iload_n C 1 d_Ex_load_17 rfl rfl (pc' := 18) rfl ?_
  refine xw_iload_n C 2 d_Ex_load_18 rfl rfl (pc' := 19) rfl ?_
  obtain ⟨M7, hM7⟩ : ∃ zq, zq = zst M 11 j v := ⟨_, rfl⟩
  refine xw_iast C 11 0 zr_11 rfl j rfl (by omega) (by decide) (ws' := zW ca ad M7) (by rw [hM7]; exact zs_11 _ _) d_Ex_load_19 (pc' := 20) rfl ?_
  refine xw_vretX C hr hlk (F := zW ca ad) M7 rfl ?_ d_Ex_load_20 (by decide) (by decide)
  exact ⟨hmd0, j, hb_j, rfl, hM7⟩

set_option maxHeartbeats 4000000 in
set_option maxRecDepth 100000 in
/-- isTask -/
theorem c_Ex_isTask (l : Launch) (D : va_G) (ca : Nat → ClassId) (ad : Nat → Nat) (M : Nat → Nat → Int32) (x y z o : Int32)  : xw_Mi l y_Ex_isTask (.code y_Ex_isTask b_Ex_isTask 4 (some .boolean) :: zG) { frames := 0, cells := 0, slots := 0, locals := 0 } D zCl (zT ca) [.int x, .int y, .int z, .int o] (zW ca ad M) (fun _ => True) 0 0 (zW ca ad) (fun r M' => M' = M ∧ (sp_isT x y z o ∧ r = nI 1 ∨ ¬ sp_isT x y z o ∧ r = nI 0)) := by
  intro sz
  refine xw_met (cc := b_Ex_isTask) (maxL := 4) (ret := (some .boolean)) (by decide) rfl (Nat.le_of_ble_eq_true rfl) (fun p e s m args below meth c hr hlk hnm hsz hKs C => ?_)
  refine xw_lvE (lv' := [(0, .int x), (1, .int y), (2, .int z), (3, .int o)]) rfl ?_
  refine xw_iload_n C 0 d_Ex_isTask_0 rfl rfl (pc' := 1) rfl ?_
  refine xw_iconst C (v := nI 1) d_Ex_isTask_1 (by decide) (pc' := 2) rfl ?_
  refine xw_icmp_lt C (tgt := 40) d_Ex_isTask_2 (by decide) (pc' := 5) rfl (fun h2 => ?_) (fun h2 => ?_)
  ·
    refine xw_iconst C (v := nI 0) d_Ex_isTask_40 (by decide) (pc' := 41) rfl ?_
    refine xw_zret C hr hlk xp_n0 (F := zW ca ad) M rfl ?_ d_Ex_isTask_41
    exact ⟨rfl, Or.inr ⟨fun h9 => by obtain ⟨g1, g2, g3, g4, g5, g6, g7⟩ := h9; first | exact g1 h2 | exact g2 h8 | exact g3 h13 | exact g4 h18 | exact g5 h23 | exact g6 h27 | exact g7 h33, rfl⟩⟩
  ·
    refine xw_iload_n C 0 d_Ex_isTask_5 rfl rfl (pc' := 6) rfl ?_
    refine xw_bipush C (v := nI 48) d_Ex_isTask_6 (by decide) (pc' := 8) rfl ?_
    refine xw_icmp_gt C (tgt := 40) d_Ex_isTask_8 (by decide) (pc' := 11) rfl (fun h8 => ?_) (fun h8 => ?_)
    ·
      refine xw_iconst C (v := nI 0) d_Ex_isTask_40 (by decide) (pc' := 41) rfl ?_
      refine xw_zret C hr hlk xp_n0 (F := zW ca ad) M rfl ?_ d_Ex_isTask_41
      exact ⟨rfl, Or.inr ⟨fun h9 => by obtain ⟨g1, g2, g3, g4, g5, g6, g7⟩ := h9; first | exact g1 h2 | exact g2 h8 | exact g3 h13 | exact g4 h18 | exact g5 h23 | exact g6 h27 | exact g7 h33, rfl⟩⟩
    ·
      refine xw_iload_n C 1 d_Ex_isTask_11 rfl rfl (pc' := 12) rfl ?_
      refine xw_iconst C (v := nI 1) d_Ex_isTask_12 (by decide) (pc' := 13) rfl ?_
      refine xw_icmp_lt C (tgt := 40) d_Ex_isTask_13 (by decide) (pc' := 16) rfl (fun h13 => ?_) (fun h13 => ?_)
      ·
        refine xw_iconst C (v := nI 0) d_Ex_isTask_40 (by decide) (pc' := 41) rfl ?_
        refine xw_zret C hr hlk xp_n0 (F := zW ca ad) M rfl ?_ d_Ex_isTask_41
        exact ⟨rfl, Or.inr ⟨fun h9 => by obtain ⟨g1, g2, g3, g4, g5, g6, g7⟩ := h9; first | exact g1 h2 | exact g2 h8 | exact g3 h13 | exact g4 h18 | exact g5 h23 | exact g6 h27 | exact g7 h33, rfl⟩⟩
      ·
        refine xw_iload_n C 1 d_Ex_isTask_16 rfl rfl (pc' := 17) rfl ?_
        refine xw_iload_n C 2 d_Ex_isTask_17 rfl rfl (pc' := 18) rfl ?_
        refine xw_icmp_gt C (tgt := 40) d_Ex_isTask_18 (by decide) (pc' := 21) rfl (fun h18 => ?_) (fun h18 => ?_)
        ·
          refine xw_iconst C (v := nI 0) d_Ex_isTask_40 (by decide) (pc' := 41) rfl ?_
          refine xw_zret C hr hlk xp_n0 (F := zW ca ad) M rfl ?_ d_Ex_isTask_41
          exact ⟨rfl, Or.inr ⟨fun h9 => by obtain ⟨g1, g2, g3, g4, g5, g6, g7⟩ := h9; first | exact g1 h2 | exact g2 h8 | exact g3 h13 | exact g4 h18 | exact g5 h23 | exact g6 h27 | exact g7 h33, rfl⟩⟩
        ·
          refine xw_iload_n C 2 d_Ex_isTask_21 rfl rfl (pc' := 22) rfl ?_
          refine xw_iload_n C 0 d_Ex_isTask_22 rfl rfl (pc' := 23) rfl ?_
          refine xw_icmp_gt C (tgt := 40) d_Ex_isTask_23 (by decide) (pc' := 26) rfl (fun h23 => ?_) (fun h23 => ?_)
          ·
            refine xw_iconst C (v := nI 0) d_Ex_isTask_40 (by decide) (pc' := 41) rfl ?_
            refine xw_zret C hr hlk xp_n0 (F := zW ca ad) M rfl ?_ d_Ex_isTask_41
            exact ⟨rfl, Or.inr ⟨fun h9 => by obtain ⟨g1, g2, g3, g4, g5, g6, g7⟩ := h9; first | exact g1 h2 | exact g2 h8 | exact g3 h13 | exact g4 h18 | exact g5 h23 | exact g6 h27 | exact g7 h33, rfl⟩⟩
          ·
            refine xw_iload_n C 3 d_Ex_isTask_26 rfl rfl (pc' := 27) rfl ?_
            refine xw_if_lt C (tgt := 40) d_Ex_isTask_27 (by decide) (pc' := 30) rfl (fun h27 => ?_) (fun h27 => ?_)
            ·
              refine xw_iconst C (v := nI 0) d_Ex_isTask_40 (by decide) (pc' := 41) rfl ?_
              refine xw_zret C hr hlk xp_n0 (F := zW ca ad) M rfl ?_ d_Ex_isTask_41
              exact ⟨rfl, Or.inr ⟨fun h9 => by obtain ⟨g1, g2, g3, g4, g5, g6, g7⟩ := h9; first | exact g1 h2 | exact g2 h8 | exact g3 h13 | exact g4 h18 | exact g5 h23 | exact g6 h27 | exact g7 h33, rfl⟩⟩
            ·
              refine xw_iload_n C 3 d_Ex_isTask_30 rfl rfl (pc' := 31) rfl ?_
              refine xw_bipush C (v := nI 48) d_Ex_isTask_31 (by decide) (pc' := 33) rfl ?_
              refine xw_icmp_gt C (tgt := 40) d_Ex_isTask_33 (by decide) (pc' := 36) rfl (fun h33 => ?_) (fun h33 => ?_)
              ·
                refine xw_iconst C (v := nI 0) d_Ex_isTask_40 (by decide) (pc' := 41) rfl ?_
                refine xw_zret C hr hlk xp_n0 (F := zW ca ad) M rfl ?_ d_Ex_isTask_41
                exact ⟨rfl, Or.inr ⟨fun h9 => by obtain ⟨g1, g2, g3, g4, g5, g6, g7⟩ := h9; first | exact g1 h2 | exact g2 h8 | exact g3 h13 | exact g4 h18 | exact g5 h23 | exact g6 h27 | exact g7 h33, rfl⟩⟩
              ·
                refine xw_iconst C (v := nI 1) d_Ex_isTask_36 (by decide) (pc' := 37) rfl ?_
                refine xw_goto C (tgt := 41) d_Ex_isTask_37 (by decide) ?_
                refine xw_zret C hr hlk xp_n1 (F := zW ca ad) M rfl ?_ d_Ex_isTask_41
                exact ⟨rfl, Or.inl ⟨⟨h2, h8, h13, h18, h23, h27, h33⟩, rfl⟩⟩

set_option maxHeartbeats 4000000 in
set_option maxRecDepth 100000 in
/-- task -/
theorem c_Ex_task (l : Launch) (hl0 : l.stackTraces = false) (D : va_G) (ca : Nat → ClassId) (ad : Nat → Nat) (M : Nat → Nat → Int32) (sa : Nat → Nat) (md : Nat) (n : Nat) (x y z o : Int32) (hmd : M 0 0 = nI md) (hmb : md ≤ 1) (hn : n ≤ 6) (hz : M 1 0 = nI n) : xw_Xi l y_Ex_task (.code y_Ex_task b_Ex_task 5 (some .int) :: zG) { frames := 7, cells := 2, slots := 12, locals := 120 } D zCl (zT ca) [.ref (ad 0), .int x, .int y, .int z, .int o] (zW ca ad M) (fun U => zKX sa (va_A (zW ca ad M) U.heap.size) U U.heap) 2 12 (zW ca ad) (fun r M' => md = 0 ∧ n < 6 ∧ sp_isT x y z o ∧ M' = zApp M n x y z o ∧ r = nI n) (fun E M' => M' = M ∧ (md = 1 ∧ E = "java/lang/IllegalStateException" ∨ md = 0 ∧ n = 6 ∧ E = "java/lang/IllegalStateException" ∨ md = 0 ∧ n < 6 ∧ ¬ sp_isT x y z o ∧ E = "java/lang/IllegalArgumentException")) := by
  intro sz
  refine xw_metX (cc := b_Ex_task) (maxL := 5) (ret := (some .int)) (by decide) rfl (Nat.le_of_ble_eq_true rfl) (fun p e s m args below meth c hr hlk hno hsz hKs C => ?_)
  rw [hsz] at hKs
  have hKs : zKX sa (va_A (zW ca ad M) sz) s s.heap := hKs
  refine xw_lvE (lv' := [(0, .ref (ad 0)), (1, .int x), (2, .int y), (3, .int z), (4, .int o)]) rfl ?_
  refine xw_aload_n C 0 d_Ex_task_0 rfl rfl (pc' := 1) rfl ?_
  refine xw_callXVv C (c_Ex_needEdit l hl0 D ca ad M sa md hmd hmb) ⟨zg_B C 0 k_236 k_24 k_239 q_Ex_needEdit ⟨by decide, by decide⟩, C.2.2.2.2.1 _ k_238, C.2.2.2.2.1 _ k_1⟩ 0 zr_0 rfl rfl (fun _ _ _ _ h => h.call) (fun _ _ _ hD hS hU hW => hKs.at C.2.2.2.2.2.2 hD hS hU hW) rfl rfl (Nat.le_of_ble_eq_true rfl) d_Ex_task_1 ⟨by decide, by decide⟩ (pc' := 4) rfl (fun E u hx => xx_out C hlk hno (F := zW ca ad) u rfl (by exact ⟨hx.1, Or.inl ⟨hx.2.2, hx.2.1⟩⟩) (by decide) (by decide)) (fun M2 hp3 => ?_)
  obtain ⟨hme, hmd0⟩ := hp3
  rw [hme]
  clear hme
  refine xw_aload_n C 0 d_Ex_task_4 rfl rfl (pc' := 5) rfl ?_
  refine xw_get C u_Ex 0 zr_0 rfl 0 (by decide) k_182 rfl rfl d_Ex_task_5 (pc' := 8) rfl ?_
  refine xw_get C u_Tl 1 zr_1 rfl 1 (by decide) k_128 rfl rfl d_Ex_task_8 (pc' := 11) rfl ?_
  refine xw_topi (y := nI n) hz ?_
  refine xw_bipush C (v := nI 6) d_Ex_task_11 (by decide) (pc' := 13) rfl ?_
  refine xw_icmp_ne C (tgt := 26) d_Ex_task_13 (by decide) (pc' := 16) rfl (fun h13 => ?_) (fun h13 => ?_)
  ·
    replace h13 : ¬ (n = 6) := fun hneg => h13 ((nI_eq (by omega) (by omega)).mpr hneg)
    refine xw_iload_n C 1 d_Ex_task_26 rfl rfl (pc' := 27) rfl ?_
    refine xw_iload_n C 2 d_Ex_task_27 rfl rfl (pc' := 28) rfl ?_
    refine xw_iload_n C 3 d_Ex_task_28 rfl rfl (pc' := 29) rfl ?_
    refine xw_iload C 4 d_Ex_task_29 rfl (pc' := 31) rfl ?_
    refine xw_callSi C (c_Ex_isTask l D ca ad M x y z o) ⟨zg_B C 4 k_336 k_24 k_338 q_Ex_isTask ⟨by decide, by decide⟩, C.2.2.2.2.1 _ k_337⟩ (fun _ _ _ _ h => h) (fun _ _ _ _ _ _ _ => trivial) rfl rfl (Nat.le_of_ble_eq_true rfl) d_Ex_task_31 ⟨by decide, by decide⟩ (pc' := 34) rfl (fun r4 M5 hp6 => ?_)
    obtain ⟨hme, hp6⟩ := hp6
    rw [hme]
    clear hme
    rcases hp6 with ⟨hti, rfl⟩ | ⟨hti, rfl⟩
    ·
      refine xw_if_ne C (tgt := 47) d_Ex_task_34 (by decide) (pc' := 37) rfl (fun h34 => ?_) (fun h34 => ?_)
      ·
        replace h34 : ¬ (1 = 0) := fun hneg => h34 ((xp_eq0 (by omega)).mpr hneg)
        refine xw_aload_n C 0 d_Ex_task_47 rfl rfl (pc' := 48) rfl ?_
        refine xw_get C u_Ex 0 zr_0 rfl 0 (by decide) k_182 rfl rfl d_Ex_task_48 (pc' := 51) rfl ?_
        refine xw_iload_n C 1 d_Ex_task_51 rfl rfl (pc' := 52) rfl ?_
        refine xw_iload_n C 2 d_Ex_task_52 rfl rfl (pc' := 53) rfl ?_
        refine xw_iload_n C 3 d_Ex_task_53 rfl rfl (pc' := 54) rfl ?_
        refine xw_iload C 4 d_Ex_task_54 rfl (pc' := 56) rfl ?_
        refine xw_callVi C (c_Tl_append l D ca ad M n x y z o (by omega) hz) ⟨zg_B C 4 k_355 k_25 k_358 q_Tl_append ⟨by decide, by decide⟩, C.2.2.2.2.1 _ k_356, C.2.2.2.2.1 _ k_357⟩ 1 zr_1 rfl rfl (fun _ _ _ _ h => h) (fun _ _ _ _ _ _ _ => trivial) rfl rfl (Nat.le_of_ble_eq_true rfl) d_Ex_task_56 ⟨by decide, by decide⟩ (pc' := 59) rfl (fun r7 M8 hp9 => ?_)
        obtain ⟨hM8, hre⟩ := hp9
        rw [hre]
        refine xw_iretX C hr hlk (F := zW ca ad) M8 rfl ?_ d_Ex_task_59 (by decide) (by decide)
        exact ⟨hmd0, by omega, hti, hM8, rfl⟩
      ·
        replace h34 : 1 = 0 := (xp_eq0 (by omega)).mp h34
        omega
    ·
      refine xw_if_ne C (tgt := 47) d_Ex_task_34 (by decide) (pc' := 37) rfl (fun h34 => ?_) (fun h34 => ?_)
      ·
        replace h34 : ¬ (0 = 0) := fun hneg => h34 ((xp_eq0 (by omega)).mpr hneg)
        omega
      ·
        replace h34 : 0 = 0 := (xp_eq0 (by omega)).mp h34
        refine xw_throwK C hl0 hlk hno (names := ["java/lang/RuntimeException", "java/lang/Exception"]) (by decide) (by decide) k_339 k_37 hKs (hKs.2.1 (78, "no such task can be") (by decide)) xa_IAE_g xa_IAE_n xa_IAE_o d_Ex_task_37 d_Ex_task_40 d_Ex_task_41 d_Ex_task_43 d_Ex_task_46 (by decide) (by decide) (by decide) (by decide) (F := zW ca ad) M rfl ?_ (by decide) (by decide)
        exact ⟨rfl, Or.inr (Or.inr ⟨hmd0, by omega, hti, rfl⟩)⟩
  ·
    replace h13 : n = 6 := (nI_eq (by omega) (by omega)).mp h13
    refine xw_throwK C hl0 hlk hno (names := ["java/lang/RuntimeException", "java/lang/Exception"]) (by decide) (by decide) k_240 k_35 hKs (hKs.2.1 (67, "there are 6 tasks") (by decide)) xa_ISE_g xa_ISE_n xa_ISE_o d_Ex_task_16 d_Ex_task_19 d_Ex_task_20 d_Ex_task_22 d_Ex_task_25 (by decide) (by decide) (by decide) (by decide) (F := zW ca ad) M rfl ?_ (by decide) (by decide)
    exact ⟨rfl, Or.inr (Or.inl ⟨hmd0, by omega, rfl⟩)⟩

set_option maxHeartbeats 4000000 in
set_option maxRecDepth 100000 in
/-- entry -/
theorem c_Ex_entry (l : Launch) (hl0 : l.stackTraces = false) (D : va_G) (ca : Nat → ClassId) (ad : Nat → Nat) (M : Nat → Nat → Int32) (sa : Nat → Nat) (md : Nat) (n : Nat) (x y : Int32) (hmd : M 0 0 = nI md) (hmb : md ≤ 1) (hn : n ≤ 6) (hz : M 1 0 = nI n) : xw_Xv l y_Ex_entry (.code y_Ex_entry b_Ex_entry 3 none :: zG) { frames := 7, cells := 3, slots := 18, locals := 120 } D zCl (zT ca) [.ref (ad 0), .int x, .int y] (zW ca ad M) (fun U => zKX sa (va_A (zW ca ad M) U.heap.size) U U.heap) 3 18 (zW ca ad) (fun M' => md = 0 ∧ ∃ j k, j < n ∧ k < 64 ∧ x = nI j ∧ y = nI k ∧ M' = zst M (14 + j) 4 (nI k)) (fun E M' => M' = M ∧ (md = 1 ∧ E = "java/lang/IllegalStateException" ∨ md = 0 ∧ E = "java/lang/IndexOutOfBoundsException" ∧ ¬ ((¬ x < 0 ∧ x < nI n) ∧ ¬ y < 0 ∧ y < nI 64))) := by
  intro sz
  refine xw_metX (cc := b_Ex_entry) (maxL := 3) (ret := none) (by decide) rfl (Nat.le_of_ble_eq_true rfl) (fun p e s m args below meth c hr hlk hno hsz hKs C => ?_)
  rw [hsz] at hKs
  have hKs : zKX sa (va_A (zW ca ad M) sz) s s.heap := hKs
  refine xw_lvE (lv' := [(0, .ref (ad 0)), (1, .int x), (2, .int y)]) rfl ?_
  refine xw_aload_n C 0 d_Ex_entry_0 rfl rfl (pc' := 1) rfl ?_
  refine xw_callXVv C (c_Ex_needEdit l hl0 D ca ad M sa md hmd hmb) ⟨zg_B C 0 k_236 k_24 k_239 q_Ex_needEdit ⟨by decide, by decide⟩, C.2.2.2.2.1 _ k_238, C.2.2.2.2.1 _ k_1⟩ 0 zr_0 rfl rfl (fun _ _ _ _ h => h.call) (fun _ _ _ hD hS hU hW => hKs.at C.2.2.2.2.2.2 hD hS hU hW) rfl rfl (Nat.le_of_ble_eq_true rfl) d_Ex_entry_1 ⟨by decide, by decide⟩ (pc' := 4) rfl (fun E u hx => xx_out C hlk hno (F := zW ca ad) u rfl (by exact ⟨hx.1, Or.inl ⟨hx.2.2, hx.2.1⟩⟩) (by decide) (by decide)) (fun M2 hp3 => ?_)
  obtain ⟨hme, hmd0⟩ := hp3
  rw [hme]
  clear hme
  refine xw_iload_n C 1 d_Ex_entry_4 rfl rfl (pc' := 5) rfl ?_
  refine xw_aload_n C 0 d_Ex_entry_5 rfl rfl (pc' := 6) rfl ?_
  refine xw_get C u_Ex 0 zr_0 rfl 0 (by decide) k_182 rfl rfl d_Ex_entry_6 (pc' := 9) rfl ?_
  refine xw_get C u_Tl 1 zr_1 rfl 1 (by decide) k_128 rfl rfl d_Ex_entry_9 (pc' := 12) rfl ?_
  refine xw_topi (y := nI n) hz ?_
  refine xw_callXSv C (c_Ex_needIndex l hl0 D ca ad M sa x (nI n)) ⟨zg_B C 2 k_308 k_24 k_310 q_Ex_needIndex ⟨by decide, by decide⟩, C.2.2.2.2.1 _ k_309⟩ (fun _ _ _ _ h => h.call) (fun _ _ _ hD hS hU hW => hKs.at C.2.2.2.2.2.2 hD hS hU hW) rfl rfl (Nat.le_of_ble_eq_true rfl) d_Ex_entry_12 ⟨by decide, by decide⟩ (pc' := 15) rfl (fun E u hx => xx_out C hlk hno (F := zW ca ad) u rfl (by exact ⟨hx.1, Or.inr ⟨hmd0, hx.2.1, fun h9 => hx.2.2 h9.1⟩⟩) (by decide) (by decide)) (fun M5 hp6 => ?_)
  obtain ⟨hme, hi0, hi1⟩ := hp6
  rw [hme]
  clear hme
  obtain ⟨j, hb_j, he_j⟩ := xp_ix (n := n) (by omega) hi0 hi1
  subst he_j
  refine xw_iload_n C 2 d_Ex_entry_15 rfl rfl (pc' := 16) rfl ?_
  refine xw_bipush C (v := nI 64) d_Ex_entry_16 (by decide) (pc' := 18) rfl ?_
  refine xw_callXSv C (c_Ex_needIndex l hl0 D ca ad M sa y (nI 64)) ⟨zg_B C 2 k_308 k_24 k_310 q_Ex_needIndex ⟨by decide, by decide⟩, C.2.2.2.2.1 _ k_309⟩ (fun _ _ _ _ h => h.call) (fun _ _ _ hD hS hU hW => hKs.at C.2.2.2.2.2.2 hD hS hU hW) rfl rfl (Nat.le_of_ble_eq_true rfl) d_Ex_entry_18 ⟨by decide, by decide⟩ (pc' := 21) rfl (fun E u hx => xx_out C hlk hno (F := zW ca ad) u rfl (by exact ⟨hx.1, Or.inr ⟨hmd0, hx.2.1, fun h9 => hx.2.2 h9.2⟩⟩) (by decide) (by decide)) (fun M8 hp9 => ?_)
  obtain ⟨hme, hi0, hi1⟩ := hp9
  rw [hme]
  clear hme
  obtain ⟨k, hb_k, he_k⟩ := xp_ix (n := 64) (by omega) hi0 hi1
  subst he_k
  refine xw_aload_n C 0 d_Ex_entry_21 rfl rfl (pc' := 22) rfl ?_
  refine xw_get C u_Ex 0 zr_0 rfl 0 (by decide) k_182 rfl rfl d_Ex_entry_22 (pc' := 25) rfl ?_
  refine xw_get C u_Tl 1 zr_1 rfl 0 (by decide) k_125 rfl rfl d_Ex_entry_25 (pc' := 28) rfl ?_
  refine xw_iload_n C 1 d_Ex_entry_28 rfl rfl (pc' := 29) rfl ?_
  refine xw_aald C 2 1 zr_2 rfl j rfl (by omega) (by decide) rfl d_Ex_entry_29 (pc' := 30) rfl ?_
  refine xw_iload_n C 2 d_Ex_entry_30 rfl rfl (pc' := 31) rfl ?_
  obtain ⟨M10, hM10⟩ : ∃ zq, zq = zst M (14 + j) 4 (nI k) := ⟨_, rfl⟩
  refine xw_put C u_Tk t_Tk t_Tk_ok n_Tk (14 + j) (zr_Tk (t := j) (by omega)) rfl 4 (by decide) k_102 rfl rfl (t_Tk_ok 4 (by decide)) rfl rfl (Nat.le_of_ble_eq_true rfl) (ws' := zW ca ad M10) (by rw [hM10]; exact zs_Tk_4 (t := j) (by omega) _) d_Ex_entry_31 (pc' := 34) rfl ?_
  refine xw_vretX C hr hlk (F := zW ca ad) M10 rfl ?_ d_Ex_entry_34 (by decide) (by decide)
  exact ⟨hmd0, j, k, hb_j, hb_k, rfl, rfl, hM10⟩

set_option maxHeartbeats 4000000 in
set_option maxRecDepth 100000 in
/-- clear -/
theorem c_Ex_clear (l : Launch) (hl0 : l.stackTraces = false) (D : va_G) (ca : Nat → ClassId) (ad : Nat → Nat) (M : Nat → Nat → Int32) (sa : Nat → Nat) (md : Nat) (hmd : M 0 0 = nI md) (hmb : md ≤ 1) : xw_Xv l y_Ex_clear (.code y_Ex_clear b_Ex_clear 1 none :: zG) { frames := 7, cells := 1, slots := 6, locals := 120 } D zCl (zT ca) [.ref (ad 0)] (zW ca ad M) (fun U => zKX sa (va_A (zW ca ad M) U.heap.size) U U.heap) 1 6 (zW ca ad) (fun M' => md = 0 ∧ M' = zst (zst M 1 0 (nI 0)) 3 0 (nI 0)) (fun E M' => M' = M ∧ (md = 1 ∧ E = "java/lang/IllegalStateException" ∨ False)) := by
  intro sz
  refine xw_metX (cc := b_Ex_clear) (maxL := 1) (ret := none) (by decide) rfl (Nat.le_of_ble_eq_true rfl) (fun p e s m args below meth c hr hlk hno hsz hKs C => ?_)
  rw [hsz] at hKs
  have hKs : zKX sa (va_A (zW ca ad M) sz) s s.heap := hKs
  refine xw_lvE (lv' := [(0, .ref (ad 0))]) rfl ?_
  refine xw_aload_n C 0 d_Ex_clear_0 rfl rfl (pc' := 1) rfl ?_
  refine xw_callXVv C (c_Ex_needEdit l hl0 D ca ad M sa md hmd hmb) ⟨zg_B C 0 k_236 k_24 k_239 q_Ex_needEdit ⟨by decide, by decide⟩, C.2.2.2.2.1 _ k_238, C.2.2.2.2.1 _ k_1⟩ 0 zr_0 rfl rfl (fun _ _ _ _ h => h.call) (fun _ _ _ hD hS hU hW => hKs.at C.2.2.2.2.2.2 hD hS hU hW) rfl rfl (Nat.le_of_ble_eq_true rfl) d_Ex_clear_1 ⟨by decide, by decide⟩ (pc' := 4) rfl (fun E u hx => xx_out C hlk hno (F := zW ca ad) u rfl (by exact ⟨hx.1, Or.inl ⟨hx.2.2, hx.2.1⟩⟩) (by decide) (by decide)) (fun M2 hp3 => ?_)
  obtain ⟨hme, hmd0⟩ := hp3
  rw [hme]
  clear hme
  refine xw_aload_n C 0 d_Ex_clear_4 rfl rfl (pc' := 5) rfl ?_
  refine xw_get C u_Ex 0 zr_0 rfl 0 (by decide) k_182 rfl rfl d_Ex_clear_5 (pc' := 8) rfl ?_
  refine xw_iconst C (v := nI 0) d_Ex_clear_8 (by decide) (pc' := 9) rfl ?_
  obtain ⟨M4, hM4⟩ : ∃ zq, zq = zst M 1 0 (nI 0) := ⟨_, rfl⟩
  refine xw_put C u_Tl t_Tl t_Tl_ok n_Tl 1 zr_1 rfl 1 (by decide) k_128 rfl rfl (t_Tl_ok 1 (by decide)) rfl rfl (Nat.le_of_ble_eq_true rfl) (ws' := zW ca ad M4) (by rw [hM4]; exact zs_1_0 _) d_Ex_clear_9 (pc' := 12) rfl ?_
  refine xw_aload_n C 0 d_Ex_clear_12 rfl rfl (pc' := 13) rfl ?_
  refine xw_get C u_Ex 0 zr_0 rfl 1 (by decide) k_183 rfl rfl d_Ex_clear_13 (pc' := 16) rfl ?_
  refine xw_iconst C (v := nI 0) d_Ex_clear_16 (by decide) (pc' := 17) rfl ?_
  obtain ⟨M5, hM5⟩ : ∃ zq, zq = zst M4 3 0 (nI 0) := ⟨_, rfl⟩
  refine xw_put C u_Tb t_Tb t_Tb_ok n_Tb 3 zr_3 rfl 3 (by decide) k_144 rfl rfl (t_Tb_ok 3 (by decide)) rfl rfl (Nat.le_of_ble_eq_true rfl) (ws' := zW ca ad M5) (by rw [hM5]; exact zs_3_0 _) d_Ex_clear_17 (pc' := 20) rfl ?_
  refine xw_vretX C hr hlk (F := zW ca ad) M5 rfl ?_ d_Ex_clear_20 (by decide) (by decide)
  subst hM5 hM4
  exact ⟨hmd0, rfl⟩

set_option maxHeartbeats 4000000 in
set_option maxRecDepth 100000 in
/-- round -/
theorem c_Ex_round (l : Launch) (D : va_G) (ca : Nat → ClassId) (ad : Nat → Nat) (M : Nat → Nat → Int32) (n : Nat) (per : Nat → Nat) (hn : n ≤ 6) (hz : M 1 0 = nI n) (hper : ∀ t, t < n → M (14 + t) 0 = nI (per t) ∧ 1 ≤ per t ∧ per t ≤ 48) : xw_Mi l y_Ex_round (.code y_Ex_round b_Ex_round 1 (some .int) :: zG) { frames := 2, cells := 0, slots := 0, locals := 43 } D zCl (zT ca) [.ref (ad 0)] (zW ca ad M) (fun _ => True) 0 0 (zW ca ad) (fun r M' => M' = M ∧ ((∃ h, sp_rd n per h ∧ r = nI h) ∨ sp_no n per ∧ r = -3)) := by
  intro sz
  refine xw_met (cc := b_Ex_round) (maxL := 1) (ret := (some .int)) (by decide) rfl (Nat.le_of_ble_eq_true rfl) (fun p e s m args below meth c hr hlk hnm hsz hKs C => ?_)
  refine xw_lvE (lv' := [(0, .ref (ad 0))]) rfl ?_
  refine xw_aload_n C 0 d_Ex_round_0 rfl rfl (pc' := 1) rfl ?_
  refine xw_get C u_Ex 0 zr_0 rfl 0 (by decide) k_182 rfl rfl d_Ex_round_1 (pc' := 4) rfl ?_
  refine xw_callVi C (c_Tl_commonRound l D ca ad M n per hn hz hper) ⟨zg_B C 0 k_211 k_25 k_214 q_Tl_commonRound ⟨by decide, by decide⟩, C.2.2.2.2.1 _ k_212, C.2.2.2.2.1 _ k_213⟩ 1 zr_1 rfl rfl (fun _ _ _ _ h => h) (fun _ _ _ _ _ _ _ => trivial) rfl rfl (Nat.le_of_ble_eq_true rfl) d_Ex_round_4 ⟨by decide, by decide⟩ (pc' := 7) rfl (fun r1 M2 hp3 => ?_)
  obtain ⟨hme, hre⟩ := hp3
  rw [hme]
  clear hme
  refine xw_iret C hr hlk (F := zW ca ad) M rfl ?_ d_Ex_round_7
  exact ⟨rfl, hre⟩

set_option maxHeartbeats 4000000 in
set_option maxRecDepth 100000 in
/-- slots -/
theorem c_Ex_slots (l : Launch) (D : va_G) (ca : Nat → ClassId) (ad : Nat → Nat) (M : Nat → Nat → Int32)   : xw_Mi l y_Ex_slots (.code y_Ex_slots b_Ex_slots 1 (some .int) :: zG) { frames := 0, cells := 0, slots := 0, locals := 0 } D zCl (zT ca) [.ref (ad 0)] (zW ca ad M) (fun _ => True) 0 0 (zW ca ad) (fun r M' => M' = M ∧ r = M 3 0) := by
  intro sz
  refine xw_met (cc := b_Ex_slots) (maxL := 1) (ret := (some .int)) (by decide) rfl (Nat.le_of_ble_eq_true rfl) (fun p e s m args below meth c hr hlk hnm hsz hKs C => ?_)
  refine xw_lvE (lv' := [(0, .ref (ad 0))]) rfl ?_
  refine xw_aload_n C 0 d_Ex_slots_0 rfl rfl (pc' := 1) rfl ?_
  refine xw_get C u_Ex 0 zr_0 rfl 1 (by decide) k_183 rfl rfl d_Ex_slots_1 (pc' := 4) rfl ?_
  refine xw_get C u_Tb 3 zr_3 rfl 3 (by decide) k_144 rfl rfl d_Ex_slots_4 (pc' := 7) rfl ?_
  refine xw_iret C hr hlk (F := zW ca ad) M rfl ?_ d_Ex_slots_7
  exact ⟨rfl, rfl⟩

set_option maxHeartbeats 4000000 in
set_option maxRecDepth 100000 in
/-- time -/
theorem c_Ex_time (l : Launch) (D : va_G) (ca : Nat → ClassId) (ad : Nat → Nat) (M : Nat → Nat → Int32)   : xw_Mi l y_Ex_time (.code y_Ex_time b_Ex_time 1 (some .int) :: zG) { frames := 0, cells := 0, slots := 0, locals := 0 } D zCl (zT ca) [.ref (ad 0)] (zW ca ad M) (fun _ => True) 0 0 (zW ca ad) (fun r M' => M' = M ∧ r = M 0 2) := by
  intro sz
  refine xw_met (cc := b_Ex_time) (maxL := 1) (ret := (some .int)) (by decide) rfl (Nat.le_of_ble_eq_true rfl) (fun p e s m args below meth c hr hlk hnm hsz hKs C => ?_)
  refine xw_lvE (lv' := [(0, .ref (ad 0))]) rfl ?_
  refine xw_aload_n C 0 d_Ex_time_0 rfl rfl (pc' := 1) rfl ?_
  refine xw_get C u_Ex 0 zr_0 rfl 7 (by decide) k_189 rfl rfl d_Ex_time_1 (pc' := 4) rfl ?_
  refine xw_iret C hr hlk (F := zW ca ad) M rfl ?_ d_Ex_time_4
  exact ⟨rfl, rfl⟩

theorem xp_min {x : Int32} {k bd : Nat} (hk : k ≤ 60) (h : bd ≤ k + 1 ∧ bd ≤ 60 ∧ (k + 1 ≤ bd ∨ 60 ≤ bd)) : x < nI bd ↔ x < nI (k + 1) ∧ x < nI 60 := by
  have q : bd = k + 1 ∨ bd = 60 := by omega
  rw [Int32.lt_iff_toInt_lt, Int32.lt_iff_toInt_lt, Int32.lt_iff_toInt_lt, nI_toInt (by omega), nI_toInt (by omega), nI_toInt (by omega)]
  omega

set_option maxHeartbeats 4000000 in
set_option maxRecDepth 100000 in
/-- slot -/
theorem c_Ex_slot (l : Launch) (hl0 : l.stackTraces = false) (D : va_G) (ca : Nat → ClassId) (ad : Nat → Nat) (M : Nat → Nat → Int32) (sa : Nat → Nat) (md : Nat) (n k : Nat) (x a b z : Int32) (hmd : M 0 0 = nI md) (hmb : md ≤ 1) (hn : n ≤ 6) (hz : M 1 0 = nI n) (hk : k ≤ 60) (hz3 : M 3 0 = nI k) : xw_Xv l y_Ex_slot (.code y_Ex_slot b_Ex_slot 5 none :: zG) { frames := 7, cells := 4, slots := 24, locals := 120 } D zCl (zT ca) [.ref (ad 0), .int x, .int a, .int b, .int z] (zW ca ad M) (fun U => zKX sa (va_A (zW ca ad M) U.heap.size) U U.heap) 4 24 (zW ca ad) (fun M' => md = 0 ∧ ∃ i q1 q2 t, i ≤ k ∧ i < 60 ∧ q1 < 240 ∧ 1 ≤ q2 ∧ q2 ≤ 240 ∧ t < n ∧ x = nI i ∧ a = nI q1 ∧ b = nI q2 ∧ z = nI t ∧ M' = zPut M i k a b z) (fun E M' => M' = M ∧ (md = 1 ∧ E = "java/lang/IllegalStateException" ∨ md = 0 ∧ (E = "java/lang/IndexOutOfBoundsException" ∧ ¬ ((¬ x < 0 ∧ (x < nI (k + 1) ∧ x < nI 60)) ∧ ¬ z < 0 ∧ z < nI n) ∨ E = "java/lang/IllegalArgumentException" ∧ ((¬ x < 0 ∧ (x < nI (k + 1) ∧ x < nI 60)) ∧ ¬ z < 0 ∧ z < nI n) ∧ ¬ (¬ a < 0 ∧ a < nI 240 ∧ ¬ b < nI 1 ∧ ¬ nI 240 < b)))) := by
  intro sz
  refine xw_metX (cc := b_Ex_slot) (maxL := 5) (ret := none) (by decide) rfl (Nat.le_of_ble_eq_true rfl) (fun p e s m args below meth c hr hlk hno hsz hKs C => ?_)
  rw [hsz] at hKs
  have hKs : zKX sa (va_A (zW ca ad M) sz) s s.heap := hKs
  refine xw_lvE (lv' := [(0, .ref (ad 0)), (1, .int x), (2, .int a), (3, .int b), (4, .int z)]) rfl ?_
  refine xw_aload_n C 0 d_Ex_slot_0 rfl rfl (pc' := 1) rfl ?_
  refine xw_callXVv C (c_Ex_needEdit l hl0 D ca ad M sa md hmd hmb) ⟨zg_B C 0 k_236 k_24 k_239 q_Ex_needEdit ⟨by decide, by decide⟩, C.2.2.2.2.1 _ k_238, C.2.2.2.2.1 _ k_1⟩ 0 zr_0 rfl rfl (fun _ _ _ _ h => h.call) (fun _ _ _ hD hS hU hW => hKs.at C.2.2.2.2.2.2 hD hS hU hW) rfl rfl (Nat.le_of_ble_eq_true rfl) d_Ex_slot_1 ⟨by decide, by decide⟩ (pc' := 4) rfl (fun E u hx => xx_out C hlk hno (F := zW ca ad) u rfl (by exact ⟨hx.1, Or.inl ⟨hx.2.2, hx.2.1⟩⟩) (by decide) (by decide)) (fun M2 hp3 => ?_)
  obtain ⟨hme, hmd0⟩ := hp3
  rw [hme]
  clear hme
  refine xw_iload_n C 1 d_Ex_slot_4 rfl rfl (pc' := 5) rfl ?_
  refine xw_aload_n C 0 d_Ex_slot_5 rfl rfl (pc' := 6) rfl ?_
  refine xw_get C u_Ex 0 zr_0 rfl 1 (by decide) k_183 rfl rfl d_Ex_slot_6 (pc' := 9) rfl ?_
  refine xw_get C u_Tb 3 zr_3 rfl 3 (by decide) k_144 rfl rfl d_Ex_slot_9 (pc' := 12) rfl ?_
  refine xw_topi (y := nI k) hz3 ?_
  refine xw_iconst C (v := nI 1) d_Ex_slot_12 (by decide) (pc' := 13) rfl ?_
  refine xw_iadd C d_Ex_slot_13 (pc' := 14) rfl ?_
  refine xw_topi (y := nI (k + 1)) (nI_add _ _) ?_
  refine xw_bipush C (v := nI 60) d_Ex_slot_14 (by decide) (pc' := 16) rfl ?_
  refine xw_callSi C (c_Ma_min l D ca ad M (nI (k + 1)) (nI 60)) ⟨zg_B C 2 k_434 k_39 k_436 q_Ma_min ⟨by decide, by decide⟩, C.2.2.2.2.1 _ k_435⟩ (fun _ _ _ _ h => h) (fun _ _ _ _ _ _ _ => trivial) rfl rfl (Nat.le_of_ble_eq_true rfl) d_Ex_slot_16 ⟨by decide, by decide⟩ (pc' := 19) rfl (fun r4 M5 hp6 => ?_)
  obtain ⟨hme, hre⟩ := hp6
  rw [hme, hre]
  clear hme hre
  obtain ⟨bd, hbd⟩ : ∃ zq, zq = if 60 < k + 1 then 60 else k + 1 := ⟨_, rfl⟩
  have hbd2 : bd ≤ k + 1 ∧ bd ≤ 60 ∧ (k + 1 ≤ bd ∨ 60 ≤ bd) := by rw [hbd]; split <;> omega
  refine xw_topi (y := nI bd) (by rw [hbd]; exact xp_minI hk) ?_
  refine xw_callXSv C (c_Ex_needIndex l hl0 D ca ad M sa x (nI bd)) ⟨zg_B C 2 k_308 k_24 k_310 q_Ex_needIndex ⟨by decide, by decide⟩, C.2.2.2.2.1 _ k_309⟩ (fun _ _ _ _ h => h.call) (fun _ _ _ hD hS hU hW => hKs.at C.2.2.2.2.2.2 hD hS hU hW) rfl rfl (Nat.le_of_ble_eq_true rfl) d_Ex_slot_19 ⟨by decide, by decide⟩ (pc' := 22) rfl (fun E u hx => xx_out C hlk hno (F := zW ca ad) u rfl (by exact ⟨hx.1, Or.inr ⟨hmd0, Or.inl ⟨hx.2.1, fun h9 => hx.2.2 ⟨h9.1.1, (xp_min hk hbd2).mpr h9.1.2⟩⟩⟩⟩) (by decide) (by decide)) (fun M8 hp9 => ?_)
  obtain ⟨hme, hi0, hi1⟩ := hp9
  rw [hme]
  clear hme
  obtain ⟨i, hb_i, he_i⟩ := xp_ix (n := bd) (by omega) hi0 hi1
  subst he_i
  refine xw_iload C 4 d_Ex_slot_22 rfl (pc' := 24) rfl ?_
  refine xw_aload_n C 0 d_Ex_slot_24 rfl rfl (pc' := 25) rfl ?_
  refine xw_get C u_Ex 0 zr_0 rfl 0 (by decide) k_182 rfl rfl d_Ex_slot_25 (pc' := 28) rfl ?_
  refine xw_get C u_Tl 1 zr_1 rfl 1 (by decide) k_128 rfl rfl d_Ex_slot_28 (pc' := 31) rfl ?_
  refine xw_topi (y := nI n) hz ?_
  refine xw_callXSv C (c_Ex_needIndex l hl0 D ca ad M sa z (nI n)) ⟨zg_B C 2 k_308 k_24 k_310 q_Ex_needIndex ⟨by decide, by decide⟩, C.2.2.2.2.1 _ k_309⟩ (fun _ _ _ _ h => h.call) (fun _ _ _ hD hS hU hW => hKs.at C.2.2.2.2.2.2 hD hS hU hW) rfl rfl (Nat.le_of_ble_eq_true rfl) d_Ex_slot_31 ⟨by decide, by decide⟩ (pc' := 34) rfl (fun E u hx => xx_out C hlk hno (F := zW ca ad) u rfl (by exact ⟨hx.1, Or.inr ⟨hmd0, Or.inl ⟨hx.2.1, fun h9 => hx.2.2 h9.2⟩⟩⟩) (by decide) (by decide)) (fun M11 hp12 => ?_)
  obtain ⟨hme, hi0, hi1⟩ := hp12
  rw [hme]
  clear hme
  obtain ⟨t, hb_t, he_t⟩ := xp_ix (n := n) (by omega) hi0 hi1
  subst he_t
  refine xw_iload_n C 2 d_Ex_slot_34 rfl rfl (pc' := 35) rfl ?_
  refine xw_if_lt C (tgt := 57) d_Ex_slot_35 (by decide) (pc' := 38) rfl (fun h35 => ?_) (fun h35 => ?_)
  ·
    refine xw_throwK C hl0 hlk hno (names := ["java/lang/RuntimeException", "java/lang/Exception"]) (by decide) (by decide) k_339 k_37 hKs (hKs.2.1 (113, "no such slot can be") (by decide)) xa_IAE_g xa_IAE_n xa_IAE_o d_Ex_slot_57 d_Ex_slot_60 d_Ex_slot_61 d_Ex_slot_63 d_Ex_slot_66 (by decide) (by decide) (by decide) (by decide) (F := zW ca ad) M rfl ?_ (by decide) (by decide)
    refine ⟨rfl, Or.inr ⟨hmd0, Or.inr ⟨rfl, ⟨⟨nI_pos (by omega), (nI_ltI (by omega) (by omega)).mpr (by omega), (nI_ltI (by omega) (by omega)).mpr (by omega)⟩, nI_pos (by omega), (nI_ltI (by omega) (by omega)).mpr (by omega)⟩, fun h9 => ?_⟩⟩⟩
    first | exact h9.1 h35 | exact (Int32.not_le.mpr h9.2.1) h42 | exact h9.2.2.1 h47 | exact h9.2.2.2 (Int32.not_le.mp h54)
  ·
    refine xw_iload_n C 2 d_Ex_slot_38 rfl rfl (pc' := 39) rfl ?_
    refine xw_sipush C (v := nI 240) d_Ex_slot_39 (by decide) (pc' := 42) rfl ?_
    refine xw_icmp_ge C (tgt := 57) d_Ex_slot_42 (by decide) (pc' := 45) rfl (fun h42 => ?_) (fun h42 => ?_)
    ·
      refine xw_throwK C hl0 hlk hno (names := ["java/lang/RuntimeException", "java/lang/Exception"]) (by decide) (by decide) k_339 k_37 hKs (hKs.2.1 (113, "no such slot can be") (by decide)) xa_IAE_g xa_IAE_n xa_IAE_o d_Ex_slot_57 d_Ex_slot_60 d_Ex_slot_61 d_Ex_slot_63 d_Ex_slot_66 (by decide) (by decide) (by decide) (by decide) (F := zW ca ad) M rfl ?_ (by decide) (by decide)
      refine ⟨rfl, Or.inr ⟨hmd0, Or.inr ⟨rfl, ⟨⟨nI_pos (by omega), (nI_ltI (by omega) (by omega)).mpr (by omega), (nI_ltI (by omega) (by omega)).mpr (by omega)⟩, nI_pos (by omega), (nI_ltI (by omega) (by omega)).mpr (by omega)⟩, fun h9 => ?_⟩⟩⟩
      first | exact h9.1 h35 | exact (Int32.not_le.mpr h9.2.1) h42 | exact h9.2.2.1 h47 | exact h9.2.2.2 (Int32.not_le.mp h54)
    ·
      refine xw_iload_n C 3 d_Ex_slot_45 rfl rfl (pc' := 46) rfl ?_
      refine xw_iconst C (v := nI 1) d_Ex_slot_46 (by decide) (pc' := 47) rfl ?_
      refine xw_icmp_lt C (tgt := 57) d_Ex_slot_47 (by decide) (pc' := 50) rfl (fun h47 => ?_) (fun h47 => ?_)
      ·
        refine xw_throwK C hl0 hlk hno (names := ["java/lang/RuntimeException", "java/lang/Exception"]) (by decide) (by decide) k_339 k_37 hKs (hKs.2.1 (113, "no such slot can be") (by decide)) xa_IAE_g xa_IAE_n xa_IAE_o d_Ex_slot_57 d_Ex_slot_60 d_Ex_slot_61 d_Ex_slot_63 d_Ex_slot_66 (by decide) (by decide) (by decide) (by decide) (F := zW ca ad) M rfl ?_ (by decide) (by decide)
        refine ⟨rfl, Or.inr ⟨hmd0, Or.inr ⟨rfl, ⟨⟨nI_pos (by omega), (nI_ltI (by omega) (by omega)).mpr (by omega), (nI_ltI (by omega) (by omega)).mpr (by omega)⟩, nI_pos (by omega), (nI_ltI (by omega) (by omega)).mpr (by omega)⟩, fun h9 => ?_⟩⟩⟩
        first | exact h9.1 h35 | exact (Int32.not_le.mpr h9.2.1) h42 | exact h9.2.2.1 h47 | exact h9.2.2.2 (Int32.not_le.mp h54)
      ·
        refine xw_iload_n C 3 d_Ex_slot_50 rfl rfl (pc' := 51) rfl ?_
        refine xw_sipush C (v := nI 240) d_Ex_slot_51 (by decide) (pc' := 54) rfl ?_
        refine xw_icmp_le C (tgt := 67) d_Ex_slot_54 (by decide) (pc' := 57) rfl (fun h54 => ?_) (fun h54 => ?_)
        ·
          obtain ⟨q1, hq1, he1⟩ := xp_ix (n := 240) (by omega) h35 (Int32.not_le.mp h42)
          obtain ⟨q2, hq2, hq3, he2⟩ := xp_rg (a := 1) (b := 240) (by omega) (by omega) h47 (Int32.not_lt.mpr h54)
          refine xw_aload_n C 0 d_Ex_slot_67 rfl rfl (pc' := 68) rfl ?_
          refine xw_get C u_Ex 0 zr_0 rfl 1 (by decide) k_183 rfl rfl d_Ex_slot_68 (pc' := 71) rfl ?_
          refine xw_iload_n C 1 d_Ex_slot_71 rfl rfl (pc' := 72) rfl ?_
          refine xw_iload_n C 2 d_Ex_slot_72 rfl rfl (pc' := 73) rfl ?_
          refine xw_iload_n C 3 d_Ex_slot_73 rfl rfl (pc' := 74) rfl ?_
          refine xw_iload C 4 d_Ex_slot_74 rfl (pc' := 76) rfl ?_
          refine xw_callVv C (c_Tb_put l D ca ad M i k a b (nI t) (by omega) (by omega) hz3) ⟨zg_B C 4 k_438 k_28 k_426 q_Tb_put ⟨by decide, by decide⟩, C.2.2.2.2.1 _ k_424, C.2.2.2.2.1 _ k_425⟩ 3 zr_3 rfl rfl (fun _ _ _ _ h => h) (fun _ _ _ _ _ _ _ => trivial) rfl rfl (Nat.le_of_ble_eq_true rfl) d_Ex_slot_76 ⟨by decide, by decide⟩ (pc' := 79) rfl (fun M14 hp15 => ?_)
          have hM14 := hp15
          refine xw_vretX C hr hlk (F := zW ca ad) M14 rfl ?_ d_Ex_slot_79 (by decide) (by decide)
          exact ⟨hmd0, i, q1, q2, t, by omega, by omega, hq1, hq2, hq3, hb_t, rfl, he1, he2, rfl, hM14⟩
        ·
          refine xw_throwK C hl0 hlk hno (names := ["java/lang/RuntimeException", "java/lang/Exception"]) (by decide) (by decide) k_339 k_37 hKs (hKs.2.1 (113, "no such slot can be") (by decide)) xa_IAE_g xa_IAE_n xa_IAE_o d_Ex_slot_57 d_Ex_slot_60 d_Ex_slot_61 d_Ex_slot_63 d_Ex_slot_66 (by decide) (by decide) (by decide) (by decide) (F := zW ca ad) M rfl ?_ (by decide) (by decide)
          refine ⟨rfl, Or.inr ⟨hmd0, Or.inr ⟨rfl, ⟨⟨nI_pos (by omega), (nI_ltI (by omega) (by omega)).mpr (by omega), (nI_ltI (by omega) (by omega)).mpr (by omega)⟩, nI_pos (by omega), (nI_ltI (by omega) (by omega)).mpr (by omega)⟩, fun h9 => ?_⟩⟩⟩
          first | exact h9.1 h35 | exact (Int32.not_le.mpr h9.2.1) h42 | exact h9.2.2.1 h47 | exact h9.2.2.2 (Int32.not_le.mp h54)

set_option maxHeartbeats 4000000 in
set_option maxRecDepth 100000 in
/-- drop -/
theorem c_Ex_drop (l : Launch) (hl0 : l.stackTraces = false) (D : va_G) (ca : Nat → ClassId) (ad : Nat → Nat) (M : Nat → Nat → Int32) (sa : Nat → Nat) (md : Nat) (k : Nat) (hmd : M 0 0 = nI md) (hmb : md ≤ 1) (hk : k ≤ 60) (hz3 : M 3 0 = nI k) : xw_Xv l y_Ex_drop (.code y_Ex_drop b_Ex_drop 1 none :: zG) { frames := 7, cells := 2, slots := 12, locals := 120 } D zCl (zT ca) [.ref (ad 0)] (zW ca ad M) (fun U => zKX sa (va_A (zW ca ad M) U.heap.size) U U.heap) 2 12 (zW ca ad) (fun M' => md = 0 ∧ 0 < k ∧ M' = zst M 3 0 (nI (k - 1))) (fun E M' => M' = M ∧ (md = 1 ∧ E = "java/lang/IllegalStateException" ∨ md = 0 ∧ k = 0 ∧ E = "java/lang/IllegalStateException")) := by
  intro sz
  refine xw_metX (cc := b_Ex_drop) (maxL := 1) (ret := none) (by decide) rfl (Nat.le_of_ble_eq_true rfl) (fun p e s m args below meth c hr hlk hno hsz hKs C => ?_)
  rw [hsz] at hKs
  have hKs : zKX sa (va_A (zW ca ad M) sz) s s.heap := hKs
  refine xw_lvE (lv' := [(0, .ref (ad 0))]) rfl ?_
  refine xw_aload_n C 0 d_Ex_drop_0 rfl rfl (pc' := 1) rfl ?_
  refine xw_callXVv C (c_Ex_needEdit l hl0 D ca ad M sa md hmd hmb) ⟨zg_B C 0 k_236 k_24 k_239 q_Ex_needEdit ⟨by decide, by decide⟩, C.2.2.2.2.1 _ k_238, C.2.2.2.2.1 _ k_1⟩ 0 zr_0 rfl rfl (fun _ _ _ _ h => h.call) (fun _ _ _ hD hS hU hW => hKs.at C.2.2.2.2.2.2 hD hS hU hW) rfl rfl (Nat.le_of_ble_eq_true rfl) d_Ex_drop_1 ⟨by decide, by decide⟩ (pc' := 4) rfl (fun E u hx => xx_out C hlk hno (F := zW ca ad) u rfl (by exact ⟨hx.1, Or.inl ⟨hx.2.2, hx.2.1⟩⟩) (by decide) (by decide)) (fun M2 hp3 => ?_)
  obtain ⟨hme, hmd0⟩ := hp3
  rw [hme]
  clear hme
  refine xw_aload_n C 0 d_Ex_drop_4 rfl rfl (pc' := 5) rfl ?_
  refine xw_get C u_Ex 0 zr_0 rfl 1 (by decide) k_183 rfl rfl d_Ex_drop_5 (pc' := 8) rfl ?_
  refine xw_get C u_Tb 3 zr_3 rfl 3 (by decide) k_144 rfl rfl d_Ex_drop_8 (pc' := 11) rfl ?_
  refine xw_topi (y := nI k) hz3 ?_
  refine xw_if_ne C (tgt := 24) d_Ex_drop_11 (by decide) (pc' := 14) rfl (fun h11 => ?_) (fun h11 => ?_)
  ·
    replace h11 : ¬ (k = 0) := fun hneg => h11 ((xp_eq0 (by omega)).mpr hneg)
    refine xw_aload_n C 0 d_Ex_drop_24 rfl rfl (pc' := 25) rfl ?_
    refine xw_get C u_Ex 0 zr_0 rfl 1 (by decide) k_183 rfl rfl d_Ex_drop_25 (pc' := 28) rfl ?_
    refine xw_dup C d_Ex_drop_28 rfl (pc' := 29) rfl ?_
    refine xw_get C u_Tb 3 zr_3 rfl 3 (by decide) k_144 rfl rfl d_Ex_drop_29 (pc' := 32) rfl ?_
    refine xw_topi (y := nI k) hz3 ?_
    refine xw_iconst C (v := nI 1) d_Ex_drop_32 (by decide) (pc' := 33) rfl ?_
    refine xw_isub C d_Ex_drop_33 (pc' := 34) rfl ?_
    refine xw_topi (y := nI (k - 1)) (pk_sub (by omega)) ?_
    obtain ⟨M4, hM4⟩ : ∃ zq, zq = zst M 3 0 (nI (k - 1)) := ⟨_, rfl⟩
    refine xw_put C u_Tb t_Tb t_Tb_ok n_Tb 3 zr_3 rfl 3 (by decide) k_144 rfl rfl (t_Tb_ok 3 (by decide)) rfl rfl (Nat.le_of_ble_eq_true rfl) (ws' := zW ca ad M4) (by rw [hM4]; exact zs_3_0 _) d_Ex_drop_34 (pc' := 37) rfl ?_
    refine xw_vretX C hr hlk (F := zW ca ad) M4 rfl ?_ d_Ex_drop_37 (by decide) (by decide)
    exact ⟨hmd0, by omega, hM4⟩
  ·
    replace h11 : k = 0 := (xp_eq0 (by omega)).mp h11
    refine xw_throwK C hl0 hlk hno (names := ["java/lang/RuntimeException", "java/lang/Exception"]) (by decide) (by decide) k_240 k_35 hKs (hKs.2.1 (119, "there is no slot") (by decide)) xa_ISE_g xa_ISE_n xa_ISE_o d_Ex_drop_14 d_Ex_drop_17 d_Ex_drop_18 d_Ex_drop_20 d_Ex_drop_23 (by decide) (by decide) (by decide) (by decide) (F := zW ca ad) M rfl ?_ (by decide) (by decide)
    exact ⟨rfl, Or.inr ⟨hmd0, by omega, rfl⟩⟩

set_option maxHeartbeats 4000000 in
set_option maxRecDepth 100000 in
/-- slotOf -/
theorem c_Ex_slotOf (l : Launch) (hl0 : l.stackTraces = false) (D : va_G) (ca : Nat → ClassId) (ad : Nat → Nat) (M : Nat → Nat → Int32) (sa : Nat → Nat) (k : Nat) (x y : Int32) (hk : k ≤ 60) (hz3 : M 3 0 = nI k) : xw_Xi l y_Ex_slotOf (.code y_Ex_slotOf b_Ex_slotOf 3 (some .int) :: zG) { frames := 7, cells := 2, slots := 12, locals := 120 } D zCl (zT ca) [.ref (ad 0), .int x, .int y] (zW ca ad M) (fun U => zKX sa (va_A (zW ca ad M) U.heap.size) U U.heap) 2 12 (zW ca ad) (fun r M' => M' = M ∧ ∃ i w, i < k ∧ w < 3 ∧ x = nI i ∧ y = nI w ∧ r = if w = 0 then M 4 i else if w = 1 then M 5 i else M 6 i) (fun E M' => M' = M ∧ E = "java/lang/IndexOutOfBoundsException" ∧ ¬ ((¬ x < 0 ∧ x < nI k) ∧ ¬ y < 0 ∧ y < nI 3)) := by
  intro sz
  refine xw_metX (cc := b_Ex_slotOf) (maxL := 3) (ret := (some .int)) (by decide) rfl (Nat.le_of_ble_eq_true rfl) (fun p e s m args below meth c hr hlk hno hsz hKs C => ?_)
  rw [hsz] at hKs
  have hKs : zKX sa (va_A (zW ca ad M) sz) s s.heap := hKs
  refine xw_lvE (lv' := [(0, .ref (ad 0)), (1, .int x), (2, .int y)]) rfl ?_
  refine xw_iload_n C 1 d_Ex_slotOf_0 rfl rfl (pc' := 1) rfl ?_
  refine xw_aload_n C 0 d_Ex_slotOf_1 rfl rfl (pc' := 2) rfl ?_
  refine xw_get C u_Ex 0 zr_0 rfl 1 (by decide) k_183 rfl rfl d_Ex_slotOf_2 (pc' := 5) rfl ?_
  refine xw_get C u_Tb 3 zr_3 rfl 3 (by decide) k_144 rfl rfl d_Ex_slotOf_5 (pc' := 8) rfl ?_
  refine xw_topi (y := nI k) hz3 ?_
  refine xw_callXSv C (c_Ex_needIndex l hl0 D ca ad M sa x (nI k)) ⟨zg_B C 2 k_308 k_24 k_310 q_Ex_needIndex ⟨by decide, by decide⟩, C.2.2.2.2.1 _ k_309⟩ (fun _ _ _ _ h => h.call) (fun _ _ _ hD hS hU hW => hKs.at C.2.2.2.2.2.2 hD hS hU hW) rfl rfl (Nat.le_of_ble_eq_true rfl) d_Ex_slotOf_8 ⟨by decide, by decide⟩ (pc' := 11) rfl (fun E u hx => xx_out C hlk hno (F := zW ca ad) u rfl (by exact ⟨hx.1, hx.2.1, fun h9 => hx.2.2 h9.1⟩) (by decide) (by decide)) (fun M2 hp3 => ?_)
  obtain ⟨hme, hi0, hi1⟩ := hp3
  rw [hme]
  clear hme
  obtain ⟨i, hb_i, he_i⟩ := xp_ix (n := k) (by omega) hi0 hi1
  subst he_i
  refine xw_iload_n C 2 d_Ex_slotOf_11 rfl rfl (pc' := 12) rfl ?_
  refine xw_iconst C (v := nI 3) d_Ex_slotOf_12 (by decide) (pc' := 13) rfl ?_
  refine xw_callXSv C (c_Ex_needIndex l hl0 D ca ad M sa y (nI 3)) ⟨zg_B C 2 k_308 k_24 k_310 q_Ex_needIndex ⟨by decide, by decide⟩, C.2.2.2.2.1 _ k_309⟩ (fun _ _ _ _ h => h.call) (fun _ _ _ hD hS hU hW => hKs.at C.2.2.2.2.2.2 hD hS hU hW) rfl rfl (Nat.le_of_ble_eq_true rfl) d_Ex_slotOf_13 ⟨by decide, by decide⟩ (pc' := 16) rfl (fun E u hx => xx_out C hlk hno (F := zW ca ad) u rfl (by exact ⟨hx.1, hx.2.1, fun h9 => hx.2.2 h9.2⟩) (by decide) (by decide)) (fun M5 hp6 => ?_)
  obtain ⟨hme, hi0, hi1⟩ := hp6
  rw [hme]
  clear hme
  obtain ⟨w, hb_w, he_w⟩ := xp_ix (n := 3) (by omega) hi0 hi1
  subst he_w
  refine xw_aload_n C 0 d_Ex_slotOf_16 rfl rfl (pc' := 17) rfl ?_
  refine xw_get C u_Ex 0 zr_0 rfl 1 (by decide) k_183 rfl rfl d_Ex_slotOf_17 (pc' := 20) rfl ?_
  refine xw_iload_n C 1 d_Ex_slotOf_20 rfl rfl (pc' := 21) rfl ?_
  refine xw_iload_n C 2 d_Ex_slotOf_21 rfl rfl (pc' := 22) rfl ?_
  refine xw_callVi C (c_Tb_part l D ca ad M i w (by omega) (by omega)) ⟨zg_B C 2 k_454 k_28 k_457 q_Tb_part ⟨by decide, by decide⟩, C.2.2.2.2.1 _ k_455, C.2.2.2.2.1 _ k_456⟩ 3 zr_3 rfl rfl (fun _ _ _ _ h => h) (fun _ _ _ _ _ _ _ => trivial) rfl rfl (Nat.le_of_ble_eq_true rfl) d_Ex_slotOf_22 ⟨by decide, by decide⟩ (pc' := 25) rfl (fun r7 M8 hp9 => ?_)
  obtain ⟨hme, hre⟩ := hp9
  rw [hme, hre]
  clear hme hre
  refine xw_iretX C hr hlk (F := zW ca ad) M rfl ?_ d_Ex_slotOf_25 (by decide) (by decide)
  exact ⟨rfl, i, w, hb_i, hb_w, rfl, rfl, rfl⟩

set_option maxHeartbeats 4000000 in
set_option maxRecDepth 100000 in
/-- stop -/
theorem c_Ex_stop (l : Launch) (hl0 : l.stackTraces = false) (D : va_G) (ca : Nat → ClassId) (ad : Nat → Nat) (M : Nat → Nat → Int32) (sa : Nat → Nat) (md : Nat) (hmd : M 0 0 = nI md) (hmb : md ≤ 1) : xw_Xv l y_Ex_stop (.code y_Ex_stop b_Ex_stop 1 none :: zG) { frames := 7, cells := 1, slots := 6, locals := 120 } D zCl (zT ca) [.ref (ad 0)] (zW ca ad M) (fun U => zKX sa (va_A (zW ca ad M) U.heap.size) U U.heap) 1 6 (zW ca ad) (fun M' => md = 1 ∧ M' = zst M 0 0 (nI 0)) (fun E M' => M' = M ∧ (md = 0 ∧ E = "java/lang/IllegalStateException" ∨ False)) := by
  intro sz
  refine xw_metX (cc := b_Ex_stop) (maxL := 1) (ret := none) (by decide) rfl (Nat.le_of_ble_eq_true rfl) (fun p e s m args below meth c hr hlk hno hsz hKs C => ?_)
  rw [hsz] at hKs
  have hKs : zKX sa (va_A (zW ca ad M) sz) s s.heap := hKs
  refine xw_lvE (lv' := [(0, .ref (ad 0))]) rfl ?_
  refine xw_aload_n C 0 d_Ex_stop_0 rfl rfl (pc' := 1) rfl ?_
  refine xw_callXVv C (c_Ex_needRun l hl0 D ca ad M sa md hmd hmb) ⟨zg_B C 0 k_494 k_24 k_497 q_Ex_needRun ⟨by decide, by decide⟩, C.2.2.2.2.1 _ k_496, C.2.2.2.2.1 _ k_7⟩ 0 zr_0 rfl rfl (fun _ _ _ _ h => h.call) (fun _ _ _ hD hS hU hW => hKs.at C.2.2.2.2.2.2 hD hS hU hW) rfl rfl (Nat.le_of_ble_eq_true rfl) d_Ex_stop_1 ⟨by decide, by decide⟩ (pc' := 4) rfl (fun E u hx => xx_out C hlk hno (F := zW ca ad) u rfl (by exact ⟨hx.1, Or.inl ⟨hx.2.2, hx.2.1⟩⟩) (by decide) (by decide)) (fun M2 hp3 => ?_)
  obtain ⟨hme, hmd0⟩ := hp3
  rw [hme]
  clear hme
  refine xw_aload_n C 0 d_Ex_stop_4 rfl rfl (pc' := 5) rfl ?_
  refine xw_iconst C (v := nI 0) d_Ex_stop_5 (by decide) (pc' := 6) rfl ?_
  obtain ⟨M4, hM4⟩ : ∃ zq, zq = zst M 0 0 (nI 0) := ⟨_, rfl⟩
  refine xw_put C u_Ex t_Ex t_Ex_ok n_Ex 0 zr_0 rfl 5 (by decide) k_187 rfl rfl (t_Ex_ok 5 (by decide)) xp_n0 rfl (Nat.le_of_ble_eq_true rfl) (ws' := zW ca ad M4) (by rw [hM4]; exact zs_0_0 _) d_Ex_stop_6 (pc' := 9) rfl ?_
  refine xw_vretX C hr hlk (F := zW ca ad) M4 rfl ?_ d_Ex_stop_9 (by decide) (by decide)
  exact ⟨hmd0, hM4⟩

set_option maxHeartbeats 4000000 in
set_option maxRecDepth 100000 in
/-- count -/
theorem c_Ex_count (l : Launch) (hl0 : l.stackTraces = false) (D : va_G) (ca : Nat → ClassId) (ad : Nat → Nat) (M : Nat → Nat → Int32) (sa : Nat → Nat) (n : Nat) (x y : Int32) (hn : n ≤ 6) (hz : M 1 0 = nI n) : xw_Xi l y_Ex_count (.code y_Ex_count b_Ex_count 3 (some .int) :: zG) { frames := 7, cells := 2, slots := 12, locals := 120 } D zCl (zT ca) [.ref (ad 0), .int x, .int y] (zW ca ad M) (fun U => zKX sa (va_A (zW ca ad M) U.heap.size) U U.heap) 2 12 (zW ca ad) (fun r M' => M' = M ∧ ∃ i w, i < n ∧ w < 4 ∧ x = nI i ∧ y = nI w ∧ r = M (32 + i) w) (fun E M' => M' = M ∧ E = "java/lang/IndexOutOfBoundsException" ∧ ¬ ((¬ x < 0 ∧ x < nI n) ∧ ¬ y < 0 ∧ y < nI 4)) := by
  intro sz
  refine xw_metX (cc := b_Ex_count) (maxL := 3) (ret := (some .int)) (by decide) rfl (Nat.le_of_ble_eq_true rfl) (fun p e s m args below meth c hr hlk hno hsz hKs C => ?_)
  rw [hsz] at hKs
  have hKs : zKX sa (va_A (zW ca ad M) sz) s s.heap := hKs
  refine xw_lvE (lv' := [(0, .ref (ad 0)), (1, .int x), (2, .int y)]) rfl ?_
  refine xw_iload_n C 1 d_Ex_count_0 rfl rfl (pc' := 1) rfl ?_
  refine xw_aload_n C 0 d_Ex_count_1 rfl rfl (pc' := 2) rfl ?_
  refine xw_get C u_Ex 0 zr_0 rfl 0 (by decide) k_182 rfl rfl d_Ex_count_2 (pc' := 5) rfl ?_
  refine xw_get C u_Tl 1 zr_1 rfl 1 (by decide) k_128 rfl rfl d_Ex_count_5 (pc' := 8) rfl ?_
  refine xw_topi (y := nI n) hz ?_
  refine xw_callXSv C (c_Ex_needIndex l hl0 D ca ad M sa x (nI n)) ⟨zg_B C 2 k_308 k_24 k_310 q_Ex_needIndex ⟨by decide, by decide⟩, C.2.2.2.2.1 _ k_309⟩ (fun _ _ _ _ h => h.call) (fun _ _ _ hD hS hU hW => hKs.at C.2.2.2.2.2.2 hD hS hU hW) rfl rfl (Nat.le_of_ble_eq_true rfl) d_Ex_count_8 ⟨by decide, by decide⟩ (pc' := 11) rfl (fun E u hx => xx_out C hlk hno (F := zW ca ad) u rfl (by exact ⟨hx.1, hx.2.1, fun h9 => hx.2.2 h9.1⟩) (by decide) (by decide)) (fun M2 hp3 => ?_)
  obtain ⟨hme, hi0, hi1⟩ := hp3
  rw [hme]
  clear hme
  obtain ⟨i, hb_i, he_i⟩ := xp_ix (n := n) (by omega) hi0 hi1
  subst he_i
  refine xw_iload_n C 2 d_Ex_count_11 rfl rfl (pc' := 12) rfl ?_
  refine xw_iconst C (v := nI 4) d_Ex_count_12 (by decide) (pc' := 13) rfl ?_
  refine xw_callXSv C (c_Ex_needIndex l hl0 D ca ad M sa y (nI 4)) ⟨zg_B C 2 k_308 k_24 k_310 q_Ex_needIndex ⟨by decide, by decide⟩, C.2.2.2.2.1 _ k_309⟩ (fun _ _ _ _ h => h.call) (fun _ _ _ hD hS hU hW => hKs.at C.2.2.2.2.2.2 hD hS hU hW) rfl rfl (Nat.le_of_ble_eq_true rfl) d_Ex_count_13 ⟨by decide, by decide⟩ (pc' := 16) rfl (fun E u hx => xx_out C hlk hno (F := zW ca ad) u rfl (by exact ⟨hx.1, hx.2.1, fun h9 => hx.2.2 h9.2⟩) (by decide) (by decide)) (fun M5 hp6 => ?_)
  obtain ⟨hme, hi0, hi1⟩ := hp6
  rw [hme]
  clear hme
  obtain ⟨w, hb_w, he_w⟩ := xp_ix (n := 4) (by omega) hi0 hi1
  subst he_w
  refine xw_aload_n C 0 d_Ex_count_16 rfl rfl (pc' := 17) rfl ?_
  refine xw_get C u_Ex 0 zr_0 rfl 0 (by decide) k_182 rfl rfl d_Ex_count_17 (pc' := 20) rfl ?_
  refine xw_get C u_Tl 1 zr_1 rfl 0 (by decide) k_125 rfl rfl d_Ex_count_20 (pc' := 23) rfl ?_
  refine xw_iload_n C 1 d_Ex_count_23 rfl rfl (pc' := 24) rfl ?_
  refine xw_aald C 2 1 zr_2 rfl i rfl (by omega) (by decide) rfl d_Ex_count_24 (pc' := 25) rfl ?_
  refine xw_get C u_Tk (14 + i) (zr_Tk (t := i) (by omega)) rfl 6 (by decide) k_107 rfl rfl d_Ex_count_25 (pc' := 28) rfl ?_
  refine xw_iload_n C 2 d_Ex_count_28 rfl rfl (pc' := 29) rfl ?_
  refine xw_iald C (32 + i) 0 (zr_ct (t := i) (by omega)) rfl w rfl (by omega) (by decide) d_Ex_count_29 (pc' := 30) rfl ?_
  refine xw_iretX C hr hlk (F := zW ca ad) M rfl ?_ d_Ex_count_30 (by decide) (by decide)
  exact ⟨rfl, i, w, hb_i, hb_w, rfl, rfl, rfl⟩

set_option maxHeartbeats 4000000 in
set_option maxRecDepth 100000 in
/-- shared -/
theorem c_Ex_shared (l : Launch) (hl0 : l.stackTraces = false) (D : va_G) (ca : Nat → ClassId) (ad : Nat → Nat) (M : Nat → Nat → Int32) (sa : Nat → Nat) (x : Int32)  : xw_Xi l y_Ex_shared (.code y_Ex_shared b_Ex_shared 2 (some .int) :: zG) { frames := 7, cells := 1, slots := 6, locals := 120 } D zCl (zT ca) [.ref (ad 0), .int x] (zW ca ad M) (fun U => zKX sa (va_A (zW ca ad M) U.heap.size) U U.heap) 1 6 (zW ca ad) (fun r M' => M' = M ∧ ∃ i, i < 16 ∧ x = nI i ∧ r = M 12 i) (fun E M' => M' = M ∧ E = "java/lang/IndexOutOfBoundsException" ∧ ¬ (¬ x < 0 ∧ x < nI 16)) := by
  intro sz
  refine xw_metX (cc := b_Ex_shared) (maxL := 2) (ret := (some .int)) (by decide) rfl (Nat.le_of_ble_eq_true rfl) (fun p e s m args below meth c hr hlk hno hsz hKs C => ?_)
  rw [hsz] at hKs
  have hKs : zKX sa (va_A (zW ca ad M) sz) s s.heap := hKs
  refine xw_lvE (lv' := [(0, .ref (ad 0)), (1, .int x)]) rfl ?_
  refine xw_iload_n C 1 d_Ex_shared_0 rfl rfl (pc' := 1) rfl ?_
  refine xw_bipush C (v := nI 16) d_Ex_shared_1 (by decide) (pc' := 3) rfl ?_
  refine xw_callXSv C (c_Ex_needIndex l hl0 D ca ad M sa x (nI 16)) ⟨zg_B C 2 k_308 k_24 k_310 q_Ex_needIndex ⟨by decide, by decide⟩, C.2.2.2.2.1 _ k_309⟩ (fun _ _ _ _ h => h.call) (fun _ _ _ hD hS hU hW => hKs.at C.2.2.2.2.2.2 hD hS hU hW) rfl rfl (Nat.le_of_ble_eq_true rfl) d_Ex_shared_3 ⟨by decide, by decide⟩ (pc' := 6) rfl (fun E u hx => xx_out C hlk hno (F := zW ca ad) u rfl (by exact ⟨hx.1, hx.2.1, hx.2.2⟩) (by decide) (by decide)) (fun M2 hp3 => ?_)
  obtain ⟨hme, hi0, hi1⟩ := hp3
  rw [hme]
  clear hme
  obtain ⟨i, hb_i, he_i⟩ := xp_ix (n := 16) (by omega) hi0 hi1
  subst he_i
  refine xw_aload_n C 0 d_Ex_shared_6 rfl rfl (pc' := 7) rfl ?_
  refine xw_get C u_Ex 0 zr_0 rfl 3 (by decide) k_185 rfl rfl d_Ex_shared_7 (pc' := 10) rfl ?_
  refine xw_get C u_Mc 10 zr_10 rfl 1 (by decide) k_176 rfl rfl d_Ex_shared_10 (pc' := 13) rfl ?_
  refine xw_iload_n C 1 d_Ex_shared_13 rfl rfl (pc' := 14) rfl ?_
  refine xw_iald C 12 0 zr_12 rfl i rfl (by omega) (by decide) d_Ex_shared_14 (pc' := 15) rfl ?_
  refine xw_iretX C hr hlk (F := zW ca ad) M rfl ?_ d_Ex_shared_15 (by decide) (by decide)
  exact ⟨rfl, i, hb_i, rfl, rfl⟩
