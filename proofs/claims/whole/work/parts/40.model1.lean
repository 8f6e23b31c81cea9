theorem xp_leS {x : Int32} {a : Nat} (h : a + 1 < 2 ^ 31) : x ≤ nI a ↔ x < nI (a + 1) := by
  rw [Int32.le_iff_toInt_le, Int32.lt_iff_toInt_lt, nI_toInt (by omega), nI_toInt h]
  omega
/-- the reference's tasks and slots -/
def tmOK (M : Nat → Nat → Int32) (n : Nat) (per wk dl of : Nat → Nat) : Prop := n ≤ 6 ∧ M 38 2 = nI n ∧ ∀ t, t < n → M 39 t = nI (per t) ∧ M 40 t = nI (wk t) ∧ M 41 t = nI (dl t) ∧ M 42 t = nI (of t) ∧ 1 ≤ wk t ∧ wk t ≤ dl t ∧ dl t ≤ per t ∧ per t ≤ 48 ∧ of t ≤ 48
theorem tmOK.keep {M M1 : Nat → Nat → Int32} {n : Nat} {per wk dl of : Nat → Nat} (h : tmOK M n per wk dl of) (h1 : M1 38 2 = M 38 2) (h2 : ∀ a j, 39 ≤ a → a ≤ 42 → M1 a j = M a j) : tmOK M1 n per wk dl of := by
  obtain ⟨a, b, c⟩ := h
  refine ⟨a, h1.trans b, fun t ht => ?_⟩
  have q := c t ht
  rw [h2 39 _ (by omega) (by omega), h2 40 _ (by omega) (by omega), h2 41 _ (by omega) (by omega), h2 42 _ (by omega) (by omega)]
  exact q
def smOK (M : Nat → Nat → Int32) (k : Nat) (st ln tk : Nat → Nat) : Prop := M 38 3 = nI k ∧ k ≤ 60 ∧ ∀ i, i < k → M 44 i = nI (st i) ∧ M 45 i = nI (ln i) ∧ M 46 i = nI (tk i) ∧ st i < 240 ∧ 1 ≤ ln i ∧ ln i ≤ 240 ∧ tk i < 6
theorem smOK.keep {M M1 : Nat → Nat → Int32} {k : Nat} {st ln tk : Nat → Nat} (h : smOK M k st ln tk) (h3 : M1 38 3 = M 38 3) (h4 : ∀ a j, 44 ≤ a → a ≤ 46 → M1 a j = M a j) : smOK M1 k st ln tk := by
  obtain ⟨a, b, c⟩ := h
  refine ⟨h3.trans a, b, fun i hi => ?_⟩
  rw [h4 44 _ (by omega) (by omega), h4 45 _ (by omega) (by omega), h4 46 _ (by omega) (by omega)]
  exact c i hi

set_option maxHeartbeats 4000000 in
set_option maxRecDepth 100000 in
/-- thrown -/
theorem c_Md_thrown (l : Launch) (D : va_G) (ca : Nat → ClassId) (ad : Nat → Nat) (M : Nat → Nat → Int32)   : xw_Mi l y_Md_thrown (.code y_Md_thrown b_Md_thrown 1 (some .int) :: zG) { frames := 0, cells := 0, slots := 0, locals := 0 } D zCl (zT ca) [.ref (ad 38)] (zW ca ad M) (fun _ => True) 0 0 (zW ca ad) (fun r M' => M' = M ∧ r = M 38 0) := by
  intro sz
  refine xw_met (cc := b_Md_thrown) (maxL := 1) (ret := (some .int)) (by decide) rfl (Nat.le_of_ble_eq_true rfl) (fun p e s m args below meth c hr hlk hnm hsz hKs C => ?_)
  refine xw_lvE (lv' := [(0, .ref (ad 38))]) rfl ?_
  refine xw_aload_n C 0 d_Md_thrown_0 rfl rfl (pc' := 1) rfl ?_
  refine xw_get C u_Md 38 zr_38 rfl 0 (by decide) k_570 rfl rfl d_Md_thrown_1 (pc' := 4) rfl ?_
  refine xw_iret C hr hlk (F := zW ca ad) M rfl ?_ d_Md_thrown_4
  exact ⟨rfl, rfl⟩

set_option maxHeartbeats 4000000 in
set_option maxRecDepth 100000 in
/-- refused -/
theorem c_Md_refused (l : Launch) (D : va_G) (ca : Nat → ClassId) (ad : Nat → Nat) (M : Nat → Nat → Int32) (j : Nat) (hj : j ≤ 3) : xw_Mi l y_Md_refused (.code y_Md_refused b_Md_refused 2 (some .boolean) :: zG) { frames := 0, cells := 0, slots := 0, locals := 0 } D zCl (zT ca) [.ref (ad 38), .int (nI j)] (zW ca ad M) (fun _ => True) 0 0 (zW ca ad) (fun r M' => M' = zst M 38 0 (nI j) ∧ r = if j = 0 then nI 0 else nI 1) := by
  intro sz
  refine xw_met (cc := b_Md_refused) (maxL := 2) (ret := (some .boolean)) (by decide) rfl (Nat.le_of_ble_eq_true rfl) (fun p e s m args below meth c hr hlk hnm hsz hKs C => ?_)
  refine xw_lvE (lv' := [(0, .ref (ad 38)), (1, .int (nI j))]) rfl ?_
  refine xw_aload_n C 0 d_Md_refused_0 rfl rfl (pc' := 1) rfl ?_
  refine xw_iload_n C 1 d_Md_refused_1 rfl rfl (pc' := 2) rfl ?_
  obtain ⟨M1, hM1⟩ : ∃ zq, zq = zst M 38 0 (nI j) := ⟨_, rfl⟩
  refine xw_put C u_Md t_Md t_Md_ok n_Md 38 zr_38 rfl 0 (by decide) k_570 rfl rfl (t_Md_ok 0 (by decide)) rfl rfl (Nat.le_of_ble_eq_true rfl) (ws' := zW ca ad M1) (by rw [hM1]; exact zs_38_0 _) d_Md_refused_2 (pc' := 5) rfl ?_
  refine xw_iload_n C 1 d_Md_refused_5 rfl rfl (pc' := 6) rfl ?_
  refine xw_if_le C (tgt := 13) d_Md_refused_6 (by decide) (pc' := 9) rfl (fun h6 => ?_) (fun h6 => ?_)
  ·
    replace h6 : j ≤ 0 := (xp_le0 (by omega)).mp h6
    refine xw_iconst C (v := nI 0) d_Md_refused_13 (by decide) (pc' := 14) rfl ?_
    refine xw_zret C hr hlk xp_n0 (F := zW ca ad) M1 rfl ?_ d_Md_refused_14
    exact ⟨hM1, by rw [if_pos (by omega)]⟩
  ·
    replace h6 : ¬ (j ≤ 0) := fun hneg => h6 ((xp_le0 (by omega)).mpr hneg)
    refine xw_iconst C (v := nI 1) d_Md_refused_9 (by decide) (pc' := 10) rfl ?_
    refine xw_goto C (tgt := 14) d_Md_refused_10 (by decide) ?_
    refine xw_zret C hr hlk xp_n1 (F := zW ca ad) M1 rfl ?_ d_Md_refused_14
    exact ⟨hM1, by rw [if_neg (by omega)]⟩

set_option maxHeartbeats 4000000 in
set_option maxRecDepth 100000 in
/-- load -/
theorem c_Md_load (l : Launch) (D : va_G) (ca : Nat → ClassId) (ad : Nat → Nat) (M : Nat → Nat → Int32) (md : Nat) (x v : Int32) (hmd : M 38 1 = nI md) (hmb : md ≤ 1) : xw_Mv l y_Md_load (.code y_Md_load b_Md_load 3 none :: zG) { frames := 1, cells := 0, slots := 0, locals := 21 } D zCl (zT ca) [.ref (ad 38), .int x, .int v] (zW ca ad M) (fun _ => True) 0 0 (zW ca ad) (fun M' => md = 1 ∧ M' = zst M 38 0 (nI 1) ∨ md = 0 ∧ ¬ (¬ x < 0 ∧ x < nI 64) ∧ M' = zst M 38 0 (nI 2) ∨ md = 0 ∧ ∃ j, j < 64 ∧ x = nI j ∧ M' = zst (zst M 38 0 (nI 0)) 47 j v) := by
  intro sz
  refine xw_met (cc := b_Md_load) (maxL := 3) (ret := none) (by decide) rfl (Nat.le_of_ble_eq_true rfl) (fun p e s m args below meth c hr hlk hnm hsz hKs C => ?_)
  refine xw_lvE (lv' := [(0, .ref (ad 38)), (1, .int x), (2, .int v)]) rfl ?_
  refine xw_aload_n C 0 d_Md_load_0 rfl rfl (pc' := 1) rfl ?_
  refine xw_aload_n C 0 d_Md_load_1 rfl rfl (pc' := 2) rfl ?_
  refine xw_get C u_Md 38 zr_38 rfl 1 (by decide) k_571 rfl rfl d_Md_load_2 (pc' := 5) rfl ?_
  refine xw_topi (y := nI md) hmd ?_
  refine xw_if_eq C (tgt := 12) d_Md_load_5 (by decide) (pc' := 8) rfl (fun h5 => ?_) (fun h5 => ?_)
  ·
    replace h5 : md = 0 := (xp_eq0 (by omega)).mp h5
    refine xw_iload_n C 1 d_Md_load_12 rfl rfl (pc' := 13) rfl ?_
    refine xw_if_lt C (tgt := 22) d_Md_load_13 (by decide) (pc' := 16) rfl (fun h13 => ?_) (fun h13 => ?_)
    ·
      refine xw_iconst C (v := nI 2) d_Md_load_22 (by decide) (pc' := 23) rfl ?_
      refine xw_goto C (tgt := 27) d_Md_load_23 (by decide) ?_
      refine xw_callVi C (c_Md_refused l D ca ad M 2 (by omega)) ⟨zg_B C 1 k_646 k_31 k_649 q_Md_refused ⟨by decide, by decide⟩, C.2.2.2.2.1 _ k_648, C.2.2.2.2.1 _ k_10⟩ 38 zr_38 rfl rfl (fun _ _ _ _ h => h) (fun _ _ _ _ _ _ _ => trivial) rfl rfl (Nat.le_of_ble_eq_true rfl) d_Md_load_27 ⟨by decide, by decide⟩ (pc' := 30) rfl (fun r1 M2 hp3 => ?_)
      obtain ⟨hM2, hre⟩ := hp3
      refine xw_topi (y := nI 1) (by rw [hre]; rfl) ?_
      clear hre
      refine xw_if_ne C (tgt := 40) d_Md_load_30 (by decide) (pc' := 33) rfl (fun h30 => ?_) (fun h30 => ?_)
      ·
        replace h30 : ¬ (1 = 0) := fun hneg => h30 ((xp_eq0 (by omega)).mpr hneg)
        refine xw_vret C hr hlk (F := zW ca ad) M2 rfl ?_ d_Md_load_40
        refine Or.inr (Or.inl ⟨by omega, fun h9 => ?_, hM2⟩)
        first | exact h9.1 h13 | exact h19 ((xp_leS (by omega)).mpr h9.2)
      ·
        replace h30 : 1 = 0 := (xp_eq0 (by omega)).mp h30
        omega
    ·
      refine xw_iload_n C 1 d_Md_load_16 rfl rfl (pc' := 17) rfl ?_
      refine xw_bipush C (v := nI 63) d_Md_load_17 (by decide) (pc' := 19) rfl ?_
      refine xw_icmp_le C (tgt := 26) d_Md_load_19 (by decide) (pc' := 22) rfl (fun h19 => ?_) (fun h19 => ?_)
      ·
        refine xw_iconst C (v := nI 0) d_Md_load_26 (by decide) (pc' := 27) rfl ?_
        refine xw_callVi C (c_Md_refused l D ca ad M 0 (by omega)) ⟨zg_B C 1 k_646 k_31 k_649 q_Md_refused ⟨by decide, by decide⟩, C.2.2.2.2.1 _ k_648, C.2.2.2.2.1 _ k_10⟩ 38 zr_38 rfl rfl (fun _ _ _ _ h => h) (fun _ _ _ _ _ _ _ => trivial) rfl rfl (Nat.le_of_ble_eq_true rfl) d_Md_load_27 ⟨by decide, by decide⟩ (pc' := 30) rfl (fun r4 M5 hp6 => ?_)
        obtain ⟨hM5, hre⟩ := hp6
        refine xw_topi (y := nI 0) (by rw [hre]; rfl) ?_
        clear hre
        refine xw_if_ne C (tgt := 40) d_Md_load_30 (by decide) (pc' := 33) rfl (fun h30 => ?_) (fun h30 => ?_)
        ·
          replace h30 : ¬ (0 = 0) := fun hneg => h30 ((xp_eq0 (by omega)).mpr hneg)
          omega
        ·
          replace h30 : 0 = 0 := (xp_eq0 (by omega)).mp h30
          obtain ⟨j, hj1, hj2⟩ := xp_ix (n := 64) (by omega) h13 ((xp_leS (by omega)).mp h19)
          subst hj2
          refine xw_aload_n C 0 d_Md_load_33 rfl rfl (pc' := 34) rfl ?_
          refine xw_get C u_Md 38 zr_38 rfl 12 (by decide) k_582 rfl rfl d_Md_load_34 (pc' := 37) rfl ?_
          refine xw_iload_n C 1 d_Md_load_37 rfl rfl (pc' := 38) rfl ?_
          refine xw_iload_n C 2 d_Md_load_38 rfl rfl (pc' := 39) rfl ?_
          obtain ⟨M7, hM7⟩ : ∃ zq, zq = zst M5 47 j v := ⟨_, rfl⟩
          refine xw_iast C 47 0 zr_47 rfl j rfl (by omega) (by decide) (ws' := zW ca ad M7) (by rw [hM7]; exact zs_47 _ _) d_Md_load_39 (pc' := 40) rfl ?_
          refine xw_vret C hr hlk (F := zW ca ad) M7 rfl ?_ d_Md_load_40
          exact Or.inr (Or.inr ⟨by omega, j, hj1, rfl, by rw [hM7, hM5]⟩)
      ·
        refine xw_iconst C (v := nI 2) d_Md_load_22 (by decide) (pc' := 23) rfl ?_
        refine xw_goto C (tgt := 27) d_Md_load_23 (by decide) ?_
        refine xw_callVi C (c_Md_refused l D ca ad M 2 (by omega)) ⟨zg_B C 1 k_646 k_31 k_649 q_Md_refused ⟨by decide, by decide⟩, C.2.2.2.2.1 _ k_648, C.2.2.2.2.1 _ k_10⟩ 38 zr_38 rfl rfl (fun _ _ _ _ h => h) (fun _ _ _ _ _ _ _ => trivial) rfl rfl (Nat.le_of_ble_eq_true rfl) d_Md_load_27 ⟨by decide, by decide⟩ (pc' := 30) rfl (fun r8 M9 hp10 => ?_)
        obtain ⟨hM9, hre⟩ := hp10
        refine xw_topi (y := nI 1) (by rw [hre]; rfl) ?_
        clear hre
        refine xw_if_ne C (tgt := 40) d_Md_load_30 (by decide) (pc' := 33) rfl (fun h30 => ?_) (fun h30 => ?_)
        ·
          replace h30 : ¬ (1 = 0) := fun hneg => h30 ((xp_eq0 (by omega)).mpr hneg)
          refine xw_vret C hr hlk (F := zW ca ad) M9 rfl ?_ d_Md_load_40
          refine Or.inr (Or.inl ⟨by omega, fun h9 => ?_, hM9⟩)
          first | exact h9.1 h13 | exact h19 ((xp_leS (by omega)).mpr h9.2)
        ·
          replace h30 : 1 = 0 := (xp_eq0 (by omega)).mp h30
          omega
  ·
    replace h5 : ¬ (md = 0) := fun hneg => h5 ((xp_eq0 (by omega)).mpr hneg)
    refine xw_iconst C (v := nI 1) d_Md_load_8 (by decide) (pc' := 9) rfl ?_
    refine xw_goto C (tgt := 27) d_Md_load_9 (by decide) ?_
    refine xw_callVi C (c_Md_refused l D ca ad M 1 (by omega)) ⟨zg_B C 1 k_646 k_31 k_649 q_Md_refused ⟨by decide, by decide⟩, C.2.2.2.2.1 _ k_648, C.2.2.2.2.1 _ k_10⟩ 38 zr_38 rfl rfl (fun _ _ _ _ h => h) (fun _ _ _ _ _ _ _ => trivial) rfl rfl (Nat.le_of_ble_eq_true rfl) d_Md_load_27 ⟨by decide, by decide⟩ (pc' := 30) rfl (fun r11 M12 hp13 => ?_)
    obtain ⟨hM12, hre⟩ := hp13
    refine xw_topi (y := nI 1) (by rw [hre]; rfl) ?_
    clear hre
    refine xw_if_ne C (tgt := 40) d_Md_load_30 (by decide) (pc' := 33) rfl (fun h30 => ?_) (fun h30 => ?_)
    ·
      replace h30 : ¬ (1 = 0) := fun hneg => h30 ((xp_eq0 (by omega)).mpr hneg)
      refine xw_vret C hr hlk (F := zW ca ad) M12 rfl ?_ d_Md_load_40
      exact Or.inl ⟨by omega, hM12⟩
    ·
      replace h30 : 1 = 0 := (xp_eq0 (by omega)).mp h30
      omega

set_option maxHeartbeats 4000000 in
set_option maxRecDepth 100000 in
/-- entry -/
theorem c_Md_entry (l : Launch) (D : va_G) (ca : Nat → ClassId) (ad : Nat → Nat) (M : Nat → Nat → Int32) (md n : Nat) (x y : Int32) (hmd : M 38 1 = nI md) (hmb : md ≤ 1) (hn : n ≤ 6) (hz : M 38 2 = nI n) : xw_Mv l y_Md_entry (.code y_Md_entry b_Md_entry 3 none :: zG) { frames := 1, cells := 0, slots := 0, locals := 21 } D zCl (zT ca) [.ref (ad 38), .int x, .int y] (zW ca ad M) (fun _ => True) 0 0 (zW ca ad) (fun M' => md = 1 ∧ M' = zst M 38 0 (nI 1) ∨ md = 0 ∧ ¬ ((¬ x < 0 ∧ x < nI n) ∧ ¬ y < 0 ∧ y < nI 64) ∧ M' = zst M 38 0 (nI 2) ∨ md = 0 ∧ ∃ j k, j < n ∧ k < 64 ∧ x = nI j ∧ y = nI k ∧ M' = zst (zst M 38 0 (nI 0)) 43 j (nI k)) := by
  intro sz
  refine xw_met (cc := b_Md_entry) (maxL := 3) (ret := none) (by decide) rfl (Nat.le_of_ble_eq_true rfl) (fun p e s m args below meth c hr hlk hnm hsz hKs C => ?_)
  refine xw_lvE (lv' := [(0, .ref (ad 38)), (1, .int x), (2, .int y)]) rfl ?_
  refine xw_aload_n C 0 d_Md_entry_0 rfl rfl (pc' := 1) rfl ?_
  refine xw_aload_n C 0 d_Md_entry_1 rfl rfl (pc' := 2) rfl ?_
  refine xw_get C u_Md 38 zr_38 rfl 1 (by decide) k_571 rfl rfl d_Md_entry_2 (pc' := 5) rfl ?_
  refine xw_topi (y := nI md) hmd ?_
  refine xw_if_eq C (tgt := 12) d_Md_entry_5 (by decide) (pc' := 8) rfl (fun h5 => ?_) (fun h5 => ?_)
  ·
    replace h5 : md = 0 := (xp_eq0 (by omega)).mp h5
    refine xw_iload_n C 1 d_Md_entry_12 rfl rfl (pc' := 13) rfl ?_
    refine xw_if_lt C (tgt := 34) d_Md_entry_13 (by decide) (pc' := 16) rfl (fun h13 => ?_) (fun h13 => ?_)
    ·
      refine xw_iconst C (v := nI 2) d_Md_entry_34 (by decide) (pc' := 35) rfl ?_
      refine xw_goto C (tgt := 39) d_Md_entry_35 (by decide) ?_
      refine xw_callVi C (c_Md_refused l D ca ad M 2 (by omega)) ⟨zg_B C 1 k_646 k_31 k_649 q_Md_refused ⟨by decide, by decide⟩, C.2.2.2.2.1 _ k_648, C.2.2.2.2.1 _ k_10⟩ 38 zr_38 rfl rfl (fun _ _ _ _ h => h) (fun _ _ _ _ _ _ _ => trivial) rfl rfl (Nat.le_of_ble_eq_true rfl) d_Md_entry_39 ⟨by decide, by decide⟩ (pc' := 42) rfl (fun r1 M2 hp3 => ?_)
      obtain ⟨hM2, hre⟩ := hp3
      refine xw_topi (y := nI 1) (by rw [hre]; rfl) ?_
      clear hre
      refine xw_if_ne C (tgt := 52) d_Md_entry_42 (by decide) (pc' := 45) rfl (fun h42 => ?_) (fun h42 => ?_)
      ·
        replace h42 : ¬ (1 = 0) := fun hneg => h42 ((xp_eq0 (by omega)).mpr hneg)
        refine xw_vret C hr hlk (F := zW ca ad) M2 rfl ?_ d_Md_entry_52
        refine Or.inr (Or.inl ⟨by omega, fun h9 => ?_, hM2⟩)
        first | exact h9.1.1 h13 | exact (Int32.not_le.mpr h9.1.2) h21 | exact h9.2.1 h25 | exact h31 ((xp_leS (by omega)).mpr h9.2.2)
      ·
        replace h42 : 1 = 0 := (xp_eq0 (by omega)).mp h42
        omega
    ·
      refine xw_iload_n C 1 d_Md_entry_16 rfl rfl (pc' := 17) rfl ?_
      refine xw_aload_n C 0 d_Md_entry_17 rfl rfl (pc' := 18) rfl ?_
      refine xw_get C u_Md 38 zr_38 rfl 2 (by decide) k_572 rfl rfl d_Md_entry_18 (pc' := 21) rfl ?_
      refine xw_topi (y := nI n) hz ?_
      refine xw_icmp_ge C (tgt := 34) d_Md_entry_21 (by decide) (pc' := 24) rfl (fun h21 => ?_) (fun h21 => ?_)
      ·
        refine xw_iconst C (v := nI 2) d_Md_entry_34 (by decide) (pc' := 35) rfl ?_
        refine xw_goto C (tgt := 39) d_Md_entry_35 (by decide) ?_
        refine xw_callVi C (c_Md_refused l D ca ad M 2 (by omega)) ⟨zg_B C 1 k_646 k_31 k_649 q_Md_refused ⟨by decide, by decide⟩, C.2.2.2.2.1 _ k_648, C.2.2.2.2.1 _ k_10⟩ 38 zr_38 rfl rfl (fun _ _ _ _ h => h) (fun _ _ _ _ _ _ _ => trivial) rfl rfl (Nat.le_of_ble_eq_true rfl) d_Md_entry_39 ⟨by decide, by decide⟩ (pc' := 42) rfl (fun r4 M5 hp6 => ?_)
        obtain ⟨hM5, hre⟩ := hp6
        refine xw_topi (y := nI 1) (by rw [hre]; rfl) ?_
        clear hre
        refine xw_if_ne C (tgt := 52) d_Md_entry_42 (by decide) (pc' := 45) rfl (fun h42 => ?_) (fun h42 => ?_)
        ·
          replace h42 : ¬ (1 = 0) := fun hneg => h42 ((xp_eq0 (by omega)).mpr hneg)
          refine xw_vret C hr hlk (F := zW ca ad) M5 rfl ?_ d_Md_entry_52
          refine Or.inr (Or.inl ⟨by omega, fun h9 => ?_, hM5⟩)
          first | exact h9.1.1 h13 | exact (Int32.not_le.mpr h9.1.2) h21 | exact h9.2.1 h25 | exact h31 ((xp_leS (by omega)).mpr h9.2.2)
        ·
          replace h42 : 1 = 0 := (xp_eq0 (by omega)).mp h42
          omega
      ·
        refine xw_iload_n C 2 d_Md_entry_24 rfl rfl (pc' := 25) rfl ?_
        refine xw_if_lt C (tgt := 34) d_Md_entry_25 (by decide) (pc' := 28) rfl (fun h25 => ?_) (fun h25 => ?_)
        ·
          refine xw_iconst C (v := nI 2) d_Md_entry_34 (by decide) (pc' := 35) rfl ?_
          refine xw_goto C (tgt := 39) d_Md_entry_35 (by decide) ?_
          refine xw_callVi C (c_Md_refused l D ca ad M 2 (by omega)) ⟨zg_B C 1 k_646 k_31 k_649 q_Md_refused ⟨by decide, by decide⟩, C.2.2.2.2.1 _ k_648, C.2.2.2.2.1 _ k_10⟩ 38 zr_38 rfl rfl (fun _ _ _ _ h => h) (fun _ _ _ _ _ _ _ => trivial) rfl rfl (Nat.le_of_ble_eq_true rfl) d_Md_entry_39 ⟨by decide, by decide⟩ (pc' := 42) rfl (fun r7 M8 hp9 => ?_)
          obtain ⟨hM8, hre⟩ := hp9
          refine xw_topi (y := nI 1) (by rw [hre]; rfl) ?_
          clear hre
          refine xw_if_ne C (tgt := 52) d_Md_entry_42 (by decide) (pc' := 45) rfl (fun h42 => ?_) (fun h42 => ?_)
          ·
            replace h42 : ¬ (1 = 0) := fun hneg => h42 ((xp_eq0 (by omega)).mpr hneg)
            refine xw_vret C hr hlk (F := zW ca ad) M8 rfl ?_ d_Md_entry_52
            refine Or.inr (Or.inl ⟨by omega, fun h9 => ?_, hM8⟩)
            first | exact h9.1.1 h13 | exact (Int32.not_le.mpr h9.1.2) h21 | exact h9.2.1 h25 | exact h31 ((xp_leS (by omega)).mpr h9.2.2)
          ·
            replace h42 : 1 = 0 := (xp_eq0 (by omega)).mp h42
            omega
        ·
          refine xw_iload_n C 2 d_Md_entry_28 rfl rfl (pc' := 29) rfl ?_
          refine xw_bipush C (v := nI 63) d_Md_entry_29 (by decide) (pc' := 31) rfl ?_
          refine xw_icmp_le C (tgt := 38) d_Md_entry_31 (by decide) (pc' := 34) rfl (fun h31 => ?_) (fun h31 => ?_)
          ·
            refine xw_iconst C (v := nI 0) d_Md_entry_38 (by decide) (pc' := 39) rfl ?_
            refine xw_callVi C (c_Md_refused l D ca ad M 0 (by omega)) ⟨zg_B C 1 k_646 k_31 k_649 q_Md_refused ⟨by decide, by decide⟩, C.2.2.2.2.1 _ k_648, C.2.2.2.2.1 _ k_10⟩ 38 zr_38 rfl rfl (fun _ _ _ _ h => h) (fun _ _ _ _ _ _ _ => trivial) rfl rfl (Nat.le_of_ble_eq_true rfl) d_Md_entry_39 ⟨by decide, by decide⟩ (pc' := 42) rfl (fun r10 M11 hp12 => ?_)
            obtain ⟨hM11, hre⟩ := hp12
            refine xw_topi (y := nI 0) (by rw [hre]; rfl) ?_
            clear hre
            refine xw_if_ne C (tgt := 52) d_Md_entry_42 (by decide) (pc' := 45) rfl (fun h42 => ?_) (fun h42 => ?_)
            ·
              replace h42 : ¬ (0 = 0) := fun hneg => h42 ((xp_eq0 (by omega)).mpr hneg)
              omega
            ·
              replace h42 : 0 = 0 := (xp_eq0 (by omega)).mp h42
              obtain ⟨j, hj1, hj2⟩ := xp_ix (n := n) (by omega) h13 (Int32.not_le.mp h21)
              subst hj2
              obtain ⟨k, hk1, hk2⟩ := xp_ix (n := 64) (by omega) h25 ((xp_leS (by omega)).mp h31)
              subst hk2
              refine xw_aload_n C 0 d_Md_entry_45 rfl rfl (pc' := 46) rfl ?_
              refine xw_get C u_Md 38 zr_38 rfl 7 (by decide) k_577 rfl rfl d_Md_entry_46 (pc' := 49) rfl ?_
              refine xw_iload_n C 1 d_Md_entry_49 rfl rfl (pc' := 50) rfl ?_
              refine xw_iload_n C 2 d_Md_entry_50 rfl rfl (pc' := 51) rfl ?_
              obtain ⟨M13, hM13⟩ : ∃ zq, zq = zst M11 43 j (nI k) := ⟨_, rfl⟩
              refine xw_iast C 43 0 zr_43 rfl j rfl (by omega) (by decide) (ws' := zW ca ad M13) (by rw [hM13]; exact zs_43 _ _) d_Md_entry_51 (pc' := 52) rfl ?_
              refine xw_vret C hr hlk (F := zW ca ad) M13 rfl ?_ d_Md_entry_52
              exact Or.inr (Or.inr ⟨by omega, j, k, hj1, hk1, rfl, rfl, by rw [hM13, hM11]⟩)
          ·
            refine xw_iconst C (v := nI 2) d_Md_entry_34 (by decide) (pc' := 35) rfl ?_
            refine xw_goto C (tgt := 39) d_Md_entry_35 (by decide) ?_
            refine xw_callVi C (c_Md_refused l D ca ad M 2 (by omega)) ⟨zg_B C 1 k_646 k_31 k_649 q_Md_refused ⟨by decide, by decide⟩, C.2.2.2.2.1 _ k_648, C.2.2.2.2.1 _ k_10⟩ 38 zr_38 rfl rfl (fun _ _ _ _ h => h) (fun _ _ _ _ _ _ _ => trivial) rfl rfl (Nat.le_of_ble_eq_true rfl) d_Md_entry_39 ⟨by decide, by decide⟩ (pc' := 42) rfl (fun r14 M15 hp16 => ?_)
            obtain ⟨hM15, hre⟩ := hp16
            refine xw_topi (y := nI 1) (by rw [hre]; rfl) ?_
            clear hre
            refine xw_if_ne C (tgt := 52) d_Md_entry_42 (by decide) (pc' := 45) rfl (fun h42 => ?_) (fun h42 => ?_)
            ·
              replace h42 : ¬ (1 = 0) := fun hneg => h42 ((xp_eq0 (by omega)).mpr hneg)
              refine xw_vret C hr hlk (F := zW ca ad) M15 rfl ?_ d_Md_entry_52
              refine Or.inr (Or.inl ⟨by omega, fun h9 => ?_, hM15⟩)
              first | exact h9.1.1 h13 | exact (Int32.not_le.mpr h9.1.2) h21 | exact h9.2.1 h25 | exact h31 ((xp_leS (by omega)).mpr h9.2.2)
            ·
              replace h42 : 1 = 0 := (xp_eq0 (by omega)).mp h42
              omega
  ·
    replace h5 : ¬ (md = 0) := fun hneg => h5 ((xp_eq0 (by omega)).mpr hneg)
    refine xw_iconst C (v := nI 1) d_Md_entry_8 (by decide) (pc' := 9) rfl ?_
    refine xw_goto C (tgt := 39) d_Md_entry_9 (by decide) ?_
    refine xw_callVi C (c_Md_refused l D ca ad M 1 (by omega)) ⟨zg_B C 1 k_646 k_31 k_649 q_Md_refused ⟨by decide, by decide⟩, C.2.2.2.2.1 _ k_648, C.2.2.2.2.1 _ k_10⟩ 38 zr_38 rfl rfl (fun _ _ _ _ h => h) (fun _ _ _ _ _ _ _ => trivial) rfl rfl (Nat.le_of_ble_eq_true rfl) d_Md_entry_39 ⟨by decide, by decide⟩ (pc' := 42) rfl (fun r17 M18 hp19 => ?_)
    obtain ⟨hM18, hre⟩ := hp19
    refine xw_topi (y := nI 1) (by rw [hre]; rfl) ?_
    clear hre
    refine xw_if_ne C (tgt := 52) d_Md_entry_42 (by decide) (pc' := 45) rfl (fun h42 => ?_) (fun h42 => ?_)
    ·
      replace h42 : ¬ (1 = 0) := fun hneg => h42 ((xp_eq0 (by omega)).mpr hneg)
      refine xw_vret C hr hlk (F := zW ca ad) M18 rfl ?_ d_Md_entry_52
      exact Or.inl ⟨by omega, hM18⟩
    ·
      replace h42 : 1 = 0 := (xp_eq0 (by omega)).mp h42
      omega

set_option maxHeartbeats 4000000 in
set_option maxRecDepth 100000 in
/-- clear -/
theorem c_Md_clear (l : Launch) (D : va_G) (ca : Nat → ClassId) (ad : Nat → Nat) (M : Nat → Nat → Int32) (md : Nat) (hmd : M 38 1 = nI md) (hmb : md ≤ 1) : xw_Mv l y_Md_clear (.code y_Md_clear b_Md_clear 1 none :: zG) { frames := 1, cells := 0, slots := 0, locals := 21 } D zCl (zT ca) [.ref (ad 38)] (zW ca ad M) (fun _ => True) 0 0 (zW ca ad) (fun M' => md = 1 ∧ M' = zst M 38 0 (nI 1) ∨ md = 0 ∧ M' = zst (zst (zst M 38 0 (nI 0)) 38 2 (nI 0)) 38 3 (nI 0)) := by
  intro sz
  refine xw_met (cc := b_Md_clear) (maxL := 1) (ret := none) (by decide) rfl (Nat.le_of_ble_eq_true rfl) (fun p e s m args below meth c hr hlk hnm hsz hKs C => ?_)
  refine xw_lvE (lv' := [(0, .ref (ad 38))]) rfl ?_
  refine xw_aload_n C 0 d_Md_clear_0 rfl rfl (pc' := 1) rfl ?_
  refine xw_aload_n C 0 d_Md_clear_1 rfl rfl (pc' := 2) rfl ?_
  refine xw_get C u_Md 38 zr_38 rfl 1 (by decide) k_571 rfl rfl d_Md_clear_2 (pc' := 5) rfl ?_
  refine xw_topi (y := nI md) hmd ?_
  refine xw_if_eq C (tgt := 12) d_Md_clear_5 (by decide) (pc' := 8) rfl (fun h5 => ?_) (fun h5 => ?_)
  ·
    replace h5 : md = 0 := (xp_eq0 (by omega)).mp h5
    refine xw_iconst C (v := nI 0) d_Md_clear_12 (by decide) (pc' := 13) rfl ?_
    refine xw_callVi C (c_Md_refused l D ca ad M 0 (by omega)) ⟨zg_B C 1 k_646 k_31 k_649 q_Md_refused ⟨by decide, by decide⟩, C.2.2.2.2.1 _ k_648, C.2.2.2.2.1 _ k_10⟩ 38 zr_38 rfl rfl (fun _ _ _ _ h => h) (fun _ _ _ _ _ _ _ => trivial) rfl rfl (Nat.le_of_ble_eq_true rfl) d_Md_clear_13 ⟨by decide, by decide⟩ (pc' := 16) rfl (fun r1 M2 hp3 => ?_)
    obtain ⟨hM2, hre⟩ := hp3
    refine xw_topi (y := nI 0) (by rw [hre]; rfl) ?_
    clear hre
    refine xw_if_ne C (tgt := 29) d_Md_clear_16 (by decide) (pc' := 19) rfl (fun h16 => ?_) (fun h16 => ?_)
    ·
      replace h16 : ¬ (0 = 0) := fun hneg => h16 ((xp_eq0 (by omega)).mpr hneg)
      omega
    ·
      replace h16 : 0 = 0 := (xp_eq0 (by omega)).mp h16
      refine xw_aload_n C 0 d_Md_clear_19 rfl rfl (pc' := 20) rfl ?_
      refine xw_iconst C (v := nI 0) d_Md_clear_20 (by decide) (pc' := 21) rfl ?_
      obtain ⟨M4, hM4⟩ : ∃ zq, zq = zst M2 38 2 (nI 0) := ⟨_, rfl⟩
      refine xw_put C u_Md t_Md t_Md_ok n_Md 38 zr_38 rfl 2 (by decide) k_572 rfl rfl (t_Md_ok 2 (by decide)) rfl rfl (Nat.le_of_ble_eq_true rfl) (ws' := zW ca ad M4) (by rw [hM4]; exact zs_38_2 _) d_Md_clear_21 (pc' := 24) rfl ?_
      refine xw_aload_n C 0 d_Md_clear_24 rfl rfl (pc' := 25) rfl ?_
      refine xw_iconst C (v := nI 0) d_Md_clear_25 (by decide) (pc' := 26) rfl ?_
      obtain ⟨M5, hM5⟩ : ∃ zq, zq = zst M4 38 3 (nI 0) := ⟨_, rfl⟩
      refine xw_put C u_Md t_Md t_Md_ok n_Md 38 zr_38 rfl 8 (by decide) k_578 rfl rfl (t_Md_ok 8 (by decide)) rfl rfl (Nat.le_of_ble_eq_true rfl) (ws' := zW ca ad M5) (by rw [hM5]; exact zs_38_3 _) d_Md_clear_26 (pc' := 29) rfl ?_
      refine xw_vret C hr hlk (F := zW ca ad) M5 rfl ?_ d_Md_clear_29
      exact Or.inr ⟨by omega, by rw [hM5, hM4, hM2]⟩
  ·
    replace h5 : ¬ (md = 0) := fun hneg => h5 ((xp_eq0 (by omega)).mpr hneg)
    refine xw_iconst C (v := nI 1) d_Md_clear_8 (by decide) (pc' := 9) rfl ?_
    refine xw_goto C (tgt := 13) d_Md_clear_9 (by decide) ?_
    refine xw_callVi C (c_Md_refused l D ca ad M 1 (by omega)) ⟨zg_B C 1 k_646 k_31 k_649 q_Md_refused ⟨by decide, by decide⟩, C.2.2.2.2.1 _ k_648, C.2.2.2.2.1 _ k_10⟩ 38 zr_38 rfl rfl (fun _ _ _ _ h => h) (fun _ _ _ _ _ _ _ => trivial) rfl rfl (Nat.le_of_ble_eq_true rfl) d_Md_clear_13 ⟨by decide, by decide⟩ (pc' := 16) rfl (fun r6 M7 hp8 => ?_)
    obtain ⟨hM7, hre⟩ := hp8
    refine xw_topi (y := nI 1) (by rw [hre]; rfl) ?_
    clear hre
    refine xw_if_ne C (tgt := 29) d_Md_clear_16 (by decide) (pc' := 19) rfl (fun h16 => ?_) (fun h16 => ?_)
    ·
      replace h16 : ¬ (1 = 0) := fun hneg => h16 ((xp_eq0 (by omega)).mpr hneg)
      refine xw_vret C hr hlk (F := zW ca ad) M7 rfl ?_ d_Md_clear_29
      exact Or.inl ⟨by omega, hM7⟩
    ·
      replace h16 : 1 = 0 := (xp_eq0 (by omega)).mp h16
      omega

set_option maxHeartbeats 4000000 in
set_option maxRecDepth 100000 in
/-- stop -/
theorem c_Md_stop (l : Launch) (D : va_G) (ca : Nat → ClassId) (ad : Nat → Nat) (M : Nat → Nat → Int32) (md : Nat) (hmd : M 38 1 = nI md) (hmb : md ≤ 1) : xw_Mv l y_Md_stop (.code y_Md_stop b_Md_stop 1 none :: zG) { frames := 1, cells := 0, slots := 0, locals := 21 } D zCl (zT ca) [.ref (ad 38)] (zW ca ad M) (fun _ => True) 0 0 (zW ca ad) (fun M' => md = 0 ∧ M' = zst M 38 0 (nI 1) ∨ md = 1 ∧ M' = zst (zst M 38 0 (nI 0)) 38 1 (nI 0)) := by
  intro sz
  refine xw_met (cc := b_Md_stop) (maxL := 1) (ret := none) (by decide) rfl (Nat.le_of_ble_eq_true rfl) (fun p e s m args below meth c hr hlk hnm hsz hKs C => ?_)
  refine xw_lvE (lv' := [(0, .ref (ad 38))]) rfl ?_
  refine xw_aload_n C 0 d_Md_stop_0 rfl rfl (pc' := 1) rfl ?_
  refine xw_aload_n C 0 d_Md_stop_1 rfl rfl (pc' := 2) rfl ?_
  refine xw_get C u_Md 38 zr_38 rfl 1 (by decide) k_571 rfl rfl d_Md_stop_2 (pc' := 5) rfl ?_
  refine xw_topi (y := nI md) hmd ?_
  refine xw_if_eq C (tgt := 12) d_Md_stop_5 (by decide) (pc' := 8) rfl (fun h5 => ?_) (fun h5 => ?_)
  ·
    replace h5 : md = 0 := (xp_eq0 (by omega)).mp h5
    refine xw_iconst C (v := nI 1) d_Md_stop_12 (by decide) (pc' := 13) rfl ?_
    refine xw_callVi C (c_Md_refused l D ca ad M 1 (by omega)) ⟨zg_B C 1 k_646 k_31 k_649 q_Md_refused ⟨by decide, by decide⟩, C.2.2.2.2.1 _ k_648, C.2.2.2.2.1 _ k_10⟩ 38 zr_38 rfl rfl (fun _ _ _ _ h => h) (fun _ _ _ _ _ _ _ => trivial) rfl rfl (Nat.le_of_ble_eq_true rfl) d_Md_stop_13 ⟨by decide, by decide⟩ (pc' := 16) rfl (fun r1 M2 hp3 => ?_)
    obtain ⟨hM2, hre⟩ := hp3
    refine xw_topi (y := nI 1) (by rw [hre]; rfl) ?_
    clear hre
    refine xw_if_ne C (tgt := 24) d_Md_stop_16 (by decide) (pc' := 19) rfl (fun h16 => ?_) (fun h16 => ?_)
    ·
      replace h16 : ¬ (1 = 0) := fun hneg => h16 ((xp_eq0 (by omega)).mpr hneg)
      refine xw_vret C hr hlk (F := zW ca ad) M2 rfl ?_ d_Md_stop_24
      exact Or.inl ⟨by omega, hM2⟩
    ·
      replace h16 : 1 = 0 := (xp_eq0 (by omega)).mp h16
      omega
  ·
    replace h5 : ¬ (md = 0) := fun hneg => h5 ((xp_eq0 (by omega)).mpr hneg)
    refine xw_iconst C (v := nI 0) d_Md_stop_8 (by decide) (pc' := 9) rfl ?_
    refine xw_goto C (tgt := 13) d_Md_stop_9 (by decide) ?_
    refine xw_callVi C (c_Md_refused l D ca ad M 0 (by omega)) ⟨zg_B C 1 k_646 k_31 k_649 q_Md_refused ⟨by decide, by decide⟩, C.2.2.2.2.1 _ k_648, C.2.2.2.2.1 _ k_10⟩ 38 zr_38 rfl rfl (fun _ _ _ _ h => h) (fun _ _ _ _ _ _ _ => trivial) rfl rfl (Nat.le_of_ble_eq_true rfl) d_Md_stop_13 ⟨by decide, by decide⟩ (pc' := 16) rfl (fun r4 M5 hp6 => ?_)
    obtain ⟨hM5, hre⟩ := hp6
    refine xw_topi (y := nI 0) (by rw [hre]; rfl) ?_
    clear hre
    refine xw_if_ne C (tgt := 24) d_Md_stop_16 (by decide) (pc' := 19) rfl (fun h16 => ?_) (fun h16 => ?_)
    ·
      replace h16 : ¬ (0 = 0) := fun hneg => h16 ((xp_eq0 (by omega)).mpr hneg)
      omega
    ·
      replace h16 : 0 = 0 := (xp_eq0 (by omega)).mp h16
      refine xw_aload_n C 0 d_Md_stop_19 rfl rfl (pc' := 20) rfl ?_
      refine xw_iconst C (v := nI 0) d_Md_stop_20 (by decide) (pc' := 21) rfl ?_
      obtain ⟨M7, hM7⟩ : ∃ zq, zq = zst M5 38 1 (nI 0) := ⟨_, rfl⟩
      refine xw_put C u_Md t_Md t_Md_ok n_Md 38 zr_38 rfl 1 (by decide) k_571 rfl rfl (t_Md_ok 1 (by decide)) xp_n0 rfl (Nat.le_of_ble_eq_true rfl) (ws' := zW ca ad M7) (by rw [hM7]; exact zs_38_1 _) d_Md_stop_21 (pc' := 24) rfl ?_
      refine xw_vret C hr hlk (F := zW ca ad) M7 rfl ?_ d_Md_stop_24
      exact Or.inr ⟨by omega, by rw [hM7, hM5]⟩

set_option maxHeartbeats 4000000 in
set_option maxRecDepth 100000 in
/-- drop -/
theorem c_Md_drop (l : Launch) (D : va_G) (ca : Nat → ClassId) (ad : Nat → Nat) (M : Nat → Nat → Int32) (md k : Nat) (hmd : M 38 1 = nI md) (hmb : md ≤ 1) (hk : k ≤ 60) (hz3 : M 38 3 = nI k) : xw_Mv l y_Md_drop (.code y_Md_drop b_Md_drop 1 none :: zG) { frames := 1, cells := 0, slots := 0, locals := 21 } D zCl (zT ca) [.ref (ad 38)] (zW ca ad M) (fun _ => True) 0 0 (zW ca ad) (fun M' => (md = 1 ∨ k = 0) ∧ M' = zst M 38 0 (nI 1) ∨ md = 0 ∧ 0 < k ∧ M' = zst (zst M 38 0 (nI 0)) 38 3 (nI (k - 1))) := by
  intro sz
  refine xw_met (cc := b_Md_drop) (maxL := 1) (ret := none) (by decide) rfl (Nat.le_of_ble_eq_true rfl) (fun p e s m args below meth c hr hlk hnm hsz hKs C => ?_)
  refine xw_lvE (lv' := [(0, .ref (ad 38))]) rfl ?_
  refine xw_aload_n C 0 d_Md_drop_0 rfl rfl (pc' := 1) rfl ?_
  refine xw_aload_n C 0 d_Md_drop_1 rfl rfl (pc' := 2) rfl ?_
  refine xw_get C u_Md 38 zr_38 rfl 1 (by decide) k_571 rfl rfl d_Md_drop_2 (pc' := 5) rfl ?_
  refine xw_topi (y := nI md) hmd ?_
  refine xw_if_ne C (tgt := 15) d_Md_drop_5 (by decide) (pc' := 8) rfl (fun h5 => ?_) (fun h5 => ?_)
  ·
    replace h5 : ¬ (md = 0) := fun hneg => h5 ((xp_eq0 (by omega)).mpr hneg)
    refine xw_iconst C (v := nI 1) d_Md_drop_15 (by decide) (pc' := 16) rfl ?_
    refine xw_goto C (tgt := 20) d_Md_drop_16 (by decide) ?_
    refine xw_callVi C (c_Md_refused l D ca ad M 1 (by omega)) ⟨zg_B C 1 k_646 k_31 k_649 q_Md_refused ⟨by decide, by decide⟩, C.2.2.2.2.1 _ k_648, C.2.2.2.2.1 _ k_10⟩ 38 zr_38 rfl rfl (fun _ _ _ _ h => h) (fun _ _ _ _ _ _ _ => trivial) rfl rfl (Nat.le_of_ble_eq_true rfl) d_Md_drop_20 ⟨by decide, by decide⟩ (pc' := 23) rfl (fun r1 M2 hp3 => ?_)
    obtain ⟨hM2, hre⟩ := hp3
    refine xw_topi (y := nI 1) (by rw [hre]; rfl) ?_
    clear hre
    have t38_3_M2 : M2 38 3 = nI k := by rw [hM2, zst_ap, if_neg (by omega)]; exact hz3
    refine xw_if_ne C (tgt := 36) d_Md_drop_23 (by decide) (pc' := 26) rfl (fun h23 => ?_) (fun h23 => ?_)
    ·
      replace h23 : ¬ (1 = 0) := fun hneg => h23 ((xp_eq0 (by omega)).mpr hneg)
      refine xw_vret C hr hlk (F := zW ca ad) M2 rfl ?_ d_Md_drop_36
      exact Or.inl ⟨by omega, hM2⟩
    ·
      replace h23 : 1 = 0 := (xp_eq0 (by omega)).mp h23
      omega
  ·
    replace h5 : md = 0 := (xp_eq0 (by omega)).mp h5
    refine xw_aload_n C 0 d_Md_drop_8 rfl rfl (pc' := 9) rfl ?_
    refine xw_get C u_Md 38 zr_38 rfl 8 (by decide) k_578 rfl rfl d_Md_drop_9 (pc' := 12) rfl ?_
    refine xw_topi (y := nI k) hz3 ?_
    refine xw_if_ne C (tgt := 19) d_Md_drop_12 (by decide) (pc' := 15) rfl (fun h12 => ?_) (fun h12 => ?_)
    ·
      replace h12 : ¬ (k = 0) := fun hneg => h12 ((xp_eq0 (by omega)).mpr hneg)
      refine xw_iconst C (v := nI 0) d_Md_drop_19 (by decide) (pc' := 20) rfl ?_
      refine xw_callVi C (c_Md_refused l D ca ad M 0 (by omega)) ⟨zg_B C 1 k_646 k_31 k_649 q_Md_refused ⟨by decide, by decide⟩, C.2.2.2.2.1 _ k_648, C.2.2.2.2.1 _ k_10⟩ 38 zr_38 rfl rfl (fun _ _ _ _ h => h) (fun _ _ _ _ _ _ _ => trivial) rfl rfl (Nat.le_of_ble_eq_true rfl) d_Md_drop_20 ⟨by decide, by decide⟩ (pc' := 23) rfl (fun r4 M5 hp6 => ?_)
      obtain ⟨hM5, hre⟩ := hp6
      refine xw_topi (y := nI 0) (by rw [hre]; rfl) ?_
      clear hre
      have t38_3_M5 : M5 38 3 = nI k := by rw [hM5, zst_ap, if_neg (by omega)]; exact hz3
      refine xw_if_ne C (tgt := 36) d_Md_drop_23 (by decide) (pc' := 26) rfl (fun h23 => ?_) (fun h23 => ?_)
      ·
        replace h23 : ¬ (0 = 0) := fun hneg => h23 ((xp_eq0 (by omega)).mpr hneg)
        omega
      ·
        replace h23 : 0 = 0 := (xp_eq0 (by omega)).mp h23
        refine xw_aload_n C 0 d_Md_drop_26 rfl rfl (pc' := 27) rfl ?_
        refine xw_dup C d_Md_drop_27 rfl (pc' := 28) rfl ?_
        refine xw_get C u_Md 38 zr_38 rfl 8 (by decide) k_578 rfl rfl d_Md_drop_28 (pc' := 31) rfl ?_
        refine xw_topi (y := nI k) t38_3_M5 ?_
        refine xw_iconst C (v := nI 1) d_Md_drop_31 (by decide) (pc' := 32) rfl ?_
        refine xw_isub C d_Md_drop_32 (pc' := 33) rfl ?_
        refine xw_topi (y := nI (k - 1)) (pk_sub (by omega)) ?_
        obtain ⟨M7, hM7⟩ : ∃ zq, zq = zst M5 38 3 (nI (k - 1)) := ⟨_, rfl⟩
        have t38_3_M7 : M7 38 3 = nI (k - 1) := by rw [hM7, zst_ap, if_pos ⟨rfl, rfl⟩]
        refine xw_put C u_Md t_Md t_Md_ok n_Md 38 zr_38 rfl 8 (by decide) k_578 rfl rfl (t_Md_ok 8 (by decide)) rfl rfl (Nat.le_of_ble_eq_true rfl) (ws' := zW ca ad M7) (by rw [hM7]; exact zs_38_3 _) d_Md_drop_33 (pc' := 36) rfl ?_
        refine xw_vret C hr hlk (F := zW ca ad) M7 rfl ?_ d_Md_drop_36
        exact Or.inr ⟨by omega, by omega, by rw [hM7, hM5]⟩
    ·
      replace h12 : k = 0 := (xp_eq0 (by omega)).mp h12
      refine xw_iconst C (v := nI 1) d_Md_drop_15 (by decide) (pc' := 16) rfl ?_
      refine xw_goto C (tgt := 20) d_Md_drop_16 (by decide) ?_
      refine xw_callVi C (c_Md_refused l D ca ad M 1 (by omega)) ⟨zg_B C 1 k_646 k_31 k_649 q_Md_refused ⟨by decide, by decide⟩, C.2.2.2.2.1 _ k_648, C.2.2.2.2.1 _ k_10⟩ 38 zr_38 rfl rfl (fun _ _ _ _ h => h) (fun _ _ _ _ _ _ _ => trivial) rfl rfl (Nat.le_of_ble_eq_true rfl) d_Md_drop_20 ⟨by decide, by decide⟩ (pc' := 23) rfl (fun r8 M9 hp10 => ?_)
      obtain ⟨hM9, hre⟩ := hp10
      refine xw_topi (y := nI 1) (by rw [hre]; rfl) ?_
      clear hre
      have t38_3_M9 : M9 38 3 = nI k := by rw [hM9, zst_ap, if_neg (by omega)]; exact hz3
      refine xw_if_ne C (tgt := 36) d_Md_drop_23 (by decide) (pc' := 26) rfl (fun h23 => ?_) (fun h23 => ?_)
      ·
        replace h23 : ¬ (1 = 0) := fun hneg => h23 ((xp_eq0 (by omega)).mpr hneg)
        refine xw_vret C hr hlk (F := zW ca ad) M9 rfl ?_ d_Md_drop_36
        exact Or.inl ⟨by omega, hM9⟩
      ·
        replace h23 : 1 = 0 := (xp_eq0 (by omega)).mp h23
        omega

set_option maxHeartbeats 4000000 in
set_option maxRecDepth 100000 in
/-- slots -/
theorem c_Md_slots (l : Launch) (D : va_G) (ca : Nat → ClassId) (ad : Nat → Nat) (M : Nat → Nat → Int32)   : xw_Mi l y_Md_slots (.code y_Md_slots b_Md_slots 1 (some .int) :: zG) { frames := 0, cells := 0, slots := 0, locals := 0 } D zCl (zT ca) [.ref (ad 38)] (zW ca ad M) (fun _ => True) 0 0 (zW ca ad) (fun r M' => M' = zst M 38 0 (nI 0) ∧ r = M 38 3) := by
  intro sz
  refine xw_met (cc := b_Md_slots) (maxL := 1) (ret := (some .int)) (by decide) rfl (Nat.le_of_ble_eq_true rfl) (fun p e s m args below meth c hr hlk hnm hsz hKs C => ?_)
  refine xw_lvE (lv' := [(0, .ref (ad 38))]) rfl ?_
  refine xw_aload_n C 0 d_Md_slots_0 rfl rfl (pc' := 1) rfl ?_
  refine xw_iconst C (v := nI 0) d_Md_slots_1 (by decide) (pc' := 2) rfl ?_
  obtain ⟨M1, hM1⟩ : ∃ zq, zq = zst M 38 0 (nI 0) := ⟨_, rfl⟩
  refine xw_put C u_Md t_Md t_Md_ok n_Md 38 zr_38 rfl 0 (by decide) k_570 rfl rfl (t_Md_ok 0 (by decide)) rfl rfl (Nat.le_of_ble_eq_true rfl) (ws' := zW ca ad M1) (by rw [hM1]; exact zs_38_0 _) d_Md_slots_2 (pc' := 5) rfl ?_
  refine xw_aload_n C 0 d_Md_slots_5 rfl rfl (pc' := 6) rfl ?_
  refine xw_get C u_Md 38 zr_38 rfl 8 (by decide) k_578 rfl rfl d_Md_slots_6 (pc' := 9) rfl ?_
  refine xw_iret C hr hlk (F := zW ca ad) M1 rfl ?_ d_Md_slots_9
  exact ⟨hM1, by rw [hM1, zst_ap, if_neg (by omega)]⟩

set_option maxHeartbeats 4000000 in
set_option maxRecDepth 100000 in
/-- time -/
theorem c_Md_time (l : Launch) (D : va_G) (ca : Nat → ClassId) (ad : Nat → Nat) (M : Nat → Nat → Int32)   : xw_Mi l y_Md_time (.code y_Md_time b_Md_time 1 (some .int) :: zG) { frames := 0, cells := 0, slots := 0, locals := 0 } D zCl (zT ca) [.ref (ad 38)] (zW ca ad M) (fun _ => True) 0 0 (zW ca ad) (fun r M' => M' = zst M 38 0 (nI 0) ∧ r = M 38 4) := by
  intro sz
  refine xw_met (cc := b_Md_time) (maxL := 1) (ret := (some .int)) (by decide) rfl (Nat.le_of_ble_eq_true rfl) (fun p e s m args below meth c hr hlk hnm hsz hKs C => ?_)
  refine xw_lvE (lv' := [(0, .ref (ad 38))]) rfl ?_
  refine xw_aload_n C 0 d_Md_time_0 rfl rfl (pc' := 1) rfl ?_
  refine xw_iconst C (v := nI 0) d_Md_time_1 (by decide) (pc' := 2) rfl ?_
  obtain ⟨M1, hM1⟩ : ∃ zq, zq = zst M 38 0 (nI 0) := ⟨_, rfl⟩
  refine xw_put C u_Md t_Md t_Md_ok n_Md 38 zr_38 rfl 0 (by decide) k_570 rfl rfl (t_Md_ok 0 (by decide)) rfl rfl (Nat.le_of_ble_eq_true rfl) (ws' := zW ca ad M1) (by rw [hM1]; exact zs_38_0 _) d_Md_time_2 (pc' := 5) rfl ?_
  refine xw_aload_n C 0 d_Md_time_5 rfl rfl (pc' := 6) rfl ?_
  refine xw_get C u_Md 38 zr_38 rfl 14 (by decide) k_584 rfl rfl d_Md_time_6 (pc' := 9) rfl ?_
  refine xw_iret C hr hlk (F := zW ca ad) M1 rfl ?_ d_Md_time_9
  exact ⟨hM1, by rw [hM1, zst_ap, if_neg (by omega)]⟩

set_option maxHeartbeats 4000000 in
set_option maxRecDepth 100000 in
/-- slotOf -/
theorem c_Md_slotOf (l : Launch) (D : va_G) (ca : Nat → ClassId) (ad : Nat → Nat) (M : Nat → Nat → Int32) (k : Nat) (x y : Int32) (hk : k ≤ 60) (hz3 : M 38 3 = nI k) : xw_Mi l y_Md_slotOf (.code y_Md_slotOf b_Md_slotOf 3 (some .int) :: zG) { frames := 1, cells := 0, slots := 0, locals := 21 } D zCl (zT ca) [.ref (ad 38), .int x, .int y] (zW ca ad M) (fun _ => True) 0 0 (zW ca ad) (fun r M' => ¬ ((¬ x < 0 ∧ x < nI k) ∧ ¬ y < 0 ∧ y < nI 3) ∧ M' = zst M 38 0 (nI 1) ∨ ∃ i w, i < k ∧ w < 3 ∧ x = nI i ∧ y = nI w ∧ M' = zst M 38 0 (nI 0) ∧ r = if w = 0 then M 44 i else if w = 1 then M 45 i else M 46 i) := by
  intro sz
  refine xw_met (cc := b_Md_slotOf) (maxL := 3) (ret := (some .int)) (by decide) rfl (Nat.le_of_ble_eq_true rfl) (fun p e s m args below meth c hr hlk hnm hsz hKs C => ?_)
  refine xw_lvE (lv' := [(0, .ref (ad 38)), (1, .int x), (2, .int y)]) rfl ?_
  refine xw_aload_n C 0 d_Md_slotOf_0 rfl rfl (pc' := 1) rfl ?_
  refine xw_iload_n C 1 d_Md_slotOf_1 rfl rfl (pc' := 2) rfl ?_
  refine xw_if_lt C (tgt := 22) d_Md_slotOf_2 (by decide) (pc' := 5) rfl (fun h2 => ?_) (fun h2 => ?_)
  ·
    refine xw_iconst C (v := nI 1) d_Md_slotOf_22 (by decide) (pc' := 23) rfl ?_
    refine xw_goto C (tgt := 27) d_Md_slotOf_23 (by decide) ?_
    refine xw_callVi C (c_Md_refused l D ca ad M 1 (by omega)) ⟨zg_B C 1 k_646 k_31 k_649 q_Md_refused ⟨by decide, by decide⟩, C.2.2.2.2.1 _ k_648, C.2.2.2.2.1 _ k_10⟩ 38 zr_38 rfl rfl (fun _ _ _ _ h => h) (fun _ _ _ _ _ _ _ => trivial) rfl rfl (Nat.le_of_ble_eq_true rfl) d_Md_slotOf_27 ⟨by decide, by decide⟩ (pc' := 30) rfl (fun r1 M2 hp3 => ?_)
    obtain ⟨hM2, hre⟩ := hp3
    refine xw_topi (y := nI 1) (by rw [hre]; rfl) ?_
    clear hre
    refine xw_if_eq C (tgt := 35) d_Md_slotOf_30 (by decide) (pc' := 33) rfl (fun h30 => ?_) (fun h30 => ?_)
    ·
      replace h30 : 1 = 0 := (xp_eq0 (by omega)).mp h30
      omega
    ·
      replace h30 : ¬ (1 = 0) := fun hneg => h30 ((xp_eq0 (by omega)).mpr hneg)
      refine xw_iconst C (v := nI 0) d_Md_slotOf_33 (by decide) (pc' := 34) rfl ?_
      refine xw_iret C hr hlk (F := zW ca ad) M2 rfl ?_ d_Md_slotOf_34
      refine Or.inl ⟨fun h9 => ?_, hM2⟩
      first | exact h9.1.1 h2 | exact (Int32.not_le.mpr h9.1.2) h10 | exact h9.2.1 h14 | exact h19 ((xp_leS (by omega)).mpr h9.2.2)
  ·
    refine xw_iload_n C 1 d_Md_slotOf_5 rfl rfl (pc' := 6) rfl ?_
    refine xw_aload_n C 0 d_Md_slotOf_6 rfl rfl (pc' := 7) rfl ?_
    refine xw_get C u_Md 38 zr_38 rfl 8 (by decide) k_578 rfl rfl d_Md_slotOf_7 (pc' := 10) rfl ?_
    refine xw_topi (y := nI k) hz3 ?_
    refine xw_icmp_ge C (tgt := 22) d_Md_slotOf_10 (by decide) (pc' := 13) rfl (fun h10 => ?_) (fun h10 => ?_)
    ·
      refine xw_iconst C (v := nI 1) d_Md_slotOf_22 (by decide) (pc' := 23) rfl ?_
      refine xw_goto C (tgt := 27) d_Md_slotOf_23 (by decide) ?_
      refine xw_callVi C (c_Md_refused l D ca ad M 1 (by omega)) ⟨zg_B C 1 k_646 k_31 k_649 q_Md_refused ⟨by decide, by decide⟩, C.2.2.2.2.1 _ k_648, C.2.2.2.2.1 _ k_10⟩ 38 zr_38 rfl rfl (fun _ _ _ _ h => h) (fun _ _ _ _ _ _ _ => trivial) rfl rfl (Nat.le_of_ble_eq_true rfl) d_Md_slotOf_27 ⟨by decide, by decide⟩ (pc' := 30) rfl (fun r4 M5 hp6 => ?_)
      obtain ⟨hM5, hre⟩ := hp6
      refine xw_topi (y := nI 1) (by rw [hre]; rfl) ?_
      clear hre
      refine xw_if_eq C (tgt := 35) d_Md_slotOf_30 (by decide) (pc' := 33) rfl (fun h30 => ?_) (fun h30 => ?_)
      ·
        replace h30 : 1 = 0 := (xp_eq0 (by omega)).mp h30
        omega
      ·
        replace h30 : ¬ (1 = 0) := fun hneg => h30 ((xp_eq0 (by omega)).mpr hneg)
        refine xw_iconst C (v := nI 0) d_Md_slotOf_33 (by decide) (pc' := 34) rfl ?_
        refine xw_iret C hr hlk (F := zW ca ad) M5 rfl ?_ d_Md_slotOf_34
        refine Or.inl ⟨fun h9 => ?_, hM5⟩
        first | exact h9.1.1 h2 | exact (Int32.not_le.mpr h9.1.2) h10 | exact h9.2.1 h14 | exact h19 ((xp_leS (by omega)).mpr h9.2.2)
    ·
      refine xw_iload_n C 2 d_Md_slotOf_13 rfl rfl (pc' := 14) rfl ?_
      refine xw_if_lt C (tgt := 22) d_Md_slotOf_14 (by decide) (pc' := 17) rfl (fun h14 => ?_) (fun h14 => ?_)
      ·
        refine xw_iconst C (v := nI 1) d_Md_slotOf_22 (by decide) (pc' := 23) rfl ?_
        refine xw_goto C (tgt := 27) d_Md_slotOf_23 (by decide) ?_
        refine xw_callVi C (c_Md_refused l D ca ad M 1 (by omega)) ⟨zg_B C 1 k_646 k_31 k_649 q_Md_refused ⟨by decide, by decide⟩, C.2.2.2.2.1 _ k_648, C.2.2.2.2.1 _ k_10⟩ 38 zr_38 rfl rfl (fun _ _ _ _ h => h) (fun _ _ _ _ _ _ _ => trivial) rfl rfl (Nat.le_of_ble_eq_true rfl) d_Md_slotOf_27 ⟨by decide, by decide⟩ (pc' := 30) rfl (fun r7 M8 hp9 => ?_)
        obtain ⟨hM8, hre⟩ := hp9
        refine xw_topi (y := nI 1) (by rw [hre]; rfl) ?_
        clear hre
        refine xw_if_eq C (tgt := 35) d_Md_slotOf_30 (by decide) (pc' := 33) rfl (fun h30 => ?_) (fun h30 => ?_)
        ·
          replace h30 : 1 = 0 := (xp_eq0 (by omega)).mp h30
          omega
        ·
          replace h30 : ¬ (1 = 0) := fun hneg => h30 ((xp_eq0 (by omega)).mpr hneg)
          refine xw_iconst C (v := nI 0) d_Md_slotOf_33 (by decide) (pc' := 34) rfl ?_
          refine xw_iret C hr hlk (F := zW ca ad) M8 rfl ?_ d_Md_slotOf_34
          refine Or.inl ⟨fun h9 => ?_, hM8⟩
          first | exact h9.1.1 h2 | exact (Int32.not_le.mpr h9.1.2) h10 | exact h9.2.1 h14 | exact h19 ((xp_leS (by omega)).mpr h9.2.2)
      ·
        refine xw_iload_n C 2 d_Md_slotOf_17 rfl rfl (pc' := 18) rfl ?_
        refine xw_iconst C (v := nI 2) d_Md_slotOf_18 (by decide) (pc' := 19) rfl ?_
        refine xw_icmp_le C (tgt := 26) d_Md_slotOf_19 (by decide) (pc' := 22) rfl (fun h19 => ?_) (fun h19 => ?_)
        ·
          refine xw_iconst C (v := nI 0) d_Md_slotOf_26 (by decide) (pc' := 27) rfl ?_
          refine xw_callVi C (c_Md_refused l D ca ad M 0 (by omega)) ⟨zg_B C 1 k_646 k_31 k_649 q_Md_refused ⟨by decide, by decide⟩, C.2.2.2.2.1 _ k_648, C.2.2.2.2.1 _ k_10⟩ 38 zr_38 rfl rfl (fun _ _ _ _ h => h) (fun _ _ _ _ _ _ _ => trivial) rfl rfl (Nat.le_of_ble_eq_true rfl) d_Md_slotOf_27 ⟨by decide, by decide⟩ (pc' := 30) rfl (fun r10 M11 hp12 => ?_)
          obtain ⟨hM11, hre⟩ := hp12
          refine xw_topi (y := nI 0) (by rw [hre]; rfl) ?_
          clear hre
          refine xw_if_eq C (tgt := 35) d_Md_slotOf_30 (by decide) (pc' := 33) rfl (fun h30 => ?_) (fun h30 => ?_)
          ·
            replace h30 : 0 = 0 := (xp_eq0 (by omega)).mp h30
            obtain ⟨i, hi1, hi2⟩ := xp_ix (n := k) (by omega) h2 (Int32.not_le.mp h10)
            subst hi2
            obtain ⟨w, hw1, hw2⟩ := xp_ix (n := 3) (by omega) h14 ((xp_leS (by omega)).mp h19)
            subst hw2
            have hk4 : ∀ a b, 44 ≤ a → M11 a b = M a b := fun a b hab => by rw [hM11, zst_ap, if_neg (by omega)]
            refine xw_iload_n C 2 d_Md_slotOf_35 rfl rfl (pc' := 36) rfl ?_
            refine xw_if_ne C (tgt := 48) d_Md_slotOf_36 (by decide) (pc' := 39) rfl (fun h36 => ?_) (fun h36 => ?_)
            ·
              replace h36 : ¬ (w = 0) := fun hneg => h36 ((xp_eq0 (by omega)).mpr hneg)
              refine xw_iload_n C 2 d_Md_slotOf_48 rfl rfl (pc' := 49) rfl ?_
              refine xw_iconst C (v := nI 1) d_Md_slotOf_49 (by decide) (pc' := 50) rfl ?_
              refine xw_icmp_ne C (tgt := 62) d_Md_slotOf_50 (by decide) (pc' := 53) rfl (fun h50 => ?_) (fun h50 => ?_)
              ·
                replace h50 : ¬ (w = 1) := fun hneg => h50 ((nI_eq (by omega) (by omega)).mpr hneg)
                refine xw_aload_n C 0 d_Md_slotOf_62 rfl rfl (pc' := 63) rfl ?_
                refine xw_get C u_Md 38 zr_38 rfl 11 (by decide) k_581 rfl rfl d_Md_slotOf_63 (pc' := 66) rfl ?_
                refine xw_iload_n C 1 d_Md_slotOf_66 rfl rfl (pc' := 67) rfl ?_
                refine xw_iald C 46 0 zr_46 rfl i rfl (by omega) (by decide) d_Md_slotOf_67 (pc' := 68) rfl ?_
                refine xw_iret C hr hlk (F := zW ca ad) M11 rfl ?_ d_Md_slotOf_68
                exact Or.inr ⟨i, w, hi1, hw1, rfl, rfl, hM11, by rw [if_neg h36, if_neg h50]; exact hk4 _ _ (by omega)⟩
              ·
                replace h50 : w = 1 := (nI_eq (by omega) (by omega)).mp h50
                refine xw_aload_n C 0 d_Md_slotOf_53 rfl rfl (pc' := 54) rfl ?_
                refine xw_get C u_Md 38 zr_38 rfl 10 (by decide) k_580 rfl rfl d_Md_slotOf_54 (pc' := 57) rfl ?_
                refine xw_iload_n C 1 d_Md_slotOf_57 rfl rfl (pc' := 58) rfl ?_
                refine xw_iald C 45 0 zr_45 rfl i rfl (by omega) (by decide) d_Md_slotOf_58 (pc' := 59) rfl ?_
                refine xw_goto C (tgt := 68) d_Md_slotOf_59 (by decide) ?_
                refine xw_iret C hr hlk (F := zW ca ad) M11 rfl ?_ d_Md_slotOf_68
                exact Or.inr ⟨i, w, hi1, hw1, rfl, rfl, hM11, by rw [if_neg h36, if_pos h50]; exact hk4 _ _ (by omega)⟩
            ·
              replace h36 : w = 0 := (xp_eq0 (by omega)).mp h36
              refine xw_aload_n C 0 d_Md_slotOf_39 rfl rfl (pc' := 40) rfl ?_
              refine xw_get C u_Md 38 zr_38 rfl 9 (by decide) k_579 rfl rfl d_Md_slotOf_40 (pc' := 43) rfl ?_
              refine xw_iload_n C 1 d_Md_slotOf_43 rfl rfl (pc' := 44) rfl ?_
              refine xw_iald C 44 0 zr_44 rfl i rfl (by omega) (by decide) d_Md_slotOf_44 (pc' := 45) rfl ?_
              refine xw_goto C (tgt := 68) d_Md_slotOf_45 (by decide) ?_
              refine xw_iret C hr hlk (F := zW ca ad) M11 rfl ?_ d_Md_slotOf_68
              exact Or.inr ⟨i, w, hi1, hw1, rfl, rfl, hM11, by rw [if_pos h36]; exact hk4 _ _ (by omega)⟩
          ·
            replace h30 : ¬ (0 = 0) := fun hneg => h30 ((xp_eq0 (by omega)).mpr hneg)
            omega
        ·
          refine xw_iconst C (v := nI 1) d_Md_slotOf_22 (by decide) (pc' := 23) rfl ?_
          refine xw_goto C (tgt := 27) d_Md_slotOf_23 (by decide) ?_
          refine xw_callVi C (c_Md_refused l D ca ad M 1 (by omega)) ⟨zg_B C 1 k_646 k_31 k_649 q_Md_refused ⟨by decide, by decide⟩, C.2.2.2.2.1 _ k_648, C.2.2.2.2.1 _ k_10⟩ 38 zr_38 rfl rfl (fun _ _ _ _ h => h) (fun _ _ _ _ _ _ _ => trivial) rfl rfl (Nat.le_of_ble_eq_true rfl) d_Md_slotOf_27 ⟨by decide, by decide⟩ (pc' := 30) rfl (fun r13 M14 hp15 => ?_)
          obtain ⟨hM14, hre⟩ := hp15
          refine xw_topi (y := nI 1) (by rw [hre]; rfl) ?_
          clear hre
          refine xw_if_eq C (tgt := 35) d_Md_slotOf_30 (by decide) (pc' := 33) rfl (fun h30 => ?_) (fun h30 => ?_)
          ·
            replace h30 : 1 = 0 := (xp_eq0 (by omega)).mp h30
            omega
          ·
            replace h30 : ¬ (1 = 0) := fun hneg => h30 ((xp_eq0 (by omega)).mpr hneg)
            refine xw_iconst C (v := nI 0) d_Md_slotOf_33 (by decide) (pc' := 34) rfl ?_
            refine xw_iret C hr hlk (F := zW ca ad) M14 rfl ?_ d_Md_slotOf_34
            refine Or.inl ⟨fun h9 => ?_, hM14⟩
            first | exact h9.1.1 h2 | exact (Int32.not_le.mpr h9.1.2) h10 | exact h9.2.1 h14 | exact h19 ((xp_leS (by omega)).mpr h9.2.2)
