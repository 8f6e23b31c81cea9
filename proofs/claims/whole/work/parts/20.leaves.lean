set_option maxHeartbeats 4000000 in
set_option maxRecDepth 100000 in
/-- Arrays.fill -/
theorem c_Ar_fill (l : Launch) (D : va_G) (ca : Nat → ClassId) (ad : Nat → Nat) (M : Nat → Nat → Int32) (k n : Nat) (v : Int32) (hk : k < 57) (hC : ∀ r, zC ca ad k r = .inl (ca 0, n, .inl r)) (hn : n ≤ 240) : xw_Mv l y_Ar_fill (.code y_Ar_fill b_Ar_fill 4 none :: zG) { frames := 0, cells := 0, slots := 0, locals := 0 } D zCl (zT ca) [.ref (ad k), .int v] (zW ca ad M) (fun _ => True) 0 0 (zW ca ad) (fun M' => M' = zfl M k n v) := by
  intro sz
  refine xw_met (cc := b_Ar_fill) (maxL := 4) (ret := none) (by decide) rfl (Nat.le_of_ble_eq_true rfl) (fun p e s m args below meth c hr hlk hnm hsz hKs C => ?_)
  have loop1 : ∀ (d : Nat) (i : Nat) (M1 : Nat → Nat → Int32), n - i = d → i ≤ n → M1 = zfl M k i v → XW p l e { frames := 0, cells := 0, slots := 0, locals := 0 } s m args below meth c D zCl (va_A (zW ca ad M) sz) s.heap 4 (zW ca ad M1) 0 0 (MQ below (va_Qv (fun M' => M' = zfl M k n v) (xw_B D zCl (zT ca) (va_A (zW ca ad M) sz) (zW ca ad)) (va_A (zW ca ad M) sz)) args s 0 0 (va_A (zW ca ad M) sz)) 5 [(0, .ref (ad k)), (1, .int v), (2, .int (nI i)), (3, .int (nI n))] [] := by
    intro d
    induction d using Nat.strongRecOn with
    | _ d ih =>
      intro i M1 hd hi hM1
      refine xw_iload_n C 2 d_Ar_fill_5 rfl rfl (pc' := 6) rfl ?_
      refine xw_iload_n C 3 d_Ar_fill_6 rfl rfl (pc' := 7) rfl ?_
      refine xw_icmp_ge C (tgt := 20) d_Ar_fill_7 (by decide) (pc' := 10) rfl (fun h7 => ?_) (fun h7 => ?_)
      ·
        replace h7 : n ≤ i := (nI_leI (by omega) (by omega)).mp h7
        refine xw_vret C hr hlk (F := zW ca ad) M1 rfl ?_ d_Ar_fill_20
        rw [hM1, show i = n by omega]
      ·
        replace h7 : ¬ (n ≤ i) := fun h9 => h7 ((nI_leI (by omega) (by omega)).mpr h9)
        refine xw_aload_n C 0 d_Ar_fill_10 rfl rfl (pc' := 11) rfl ?_
        refine xw_iload_n C 2 d_Ar_fill_11 rfl rfl (pc' := 12) rfl ?_
        refine xw_iload_n C 1 d_Ar_fill_12 rfl rfl (pc' := 13) rfl ?_
        obtain ⟨M51, hM51⟩ : ∃ z, z = zst M1 k i v := ⟨_, rfl⟩
        refine xw_iast C k 0 (zr_gen hk hC) rfl i rfl (by omega) (by omega) (ws' := zW ca ad M51) (by rw [hM51]; exact zs_gen hk hC _ _) d_Ar_fill_13 (pc' := 14) rfl ?_
        refine xw_iinc C 2 (v := nI (i + 1)) d_Ar_fill_14 rfl (xp_inc1 _) (by decide) rfl (pc' := 17) rfl ?_
        refine xw_goto C (tgt := 5) d_Ar_fill_17 (by decide) ?_
        refine xw_lv [1, 2, 0, 3] rfl ?_
        exact ih (n - (i + 1)) (by omega) (i + 1) M51 rfl (by omega) (by rw [hM51, hM1]; exact zfl_s _ _ _ _)
  refine xw_lvE (lv' := [(0, .ref (ad k)), (1, .int v)]) rfl ?_
  refine xw_iconst C (v := nI 0) d_Ar_fill_0 (by decide) (pc' := 1) rfl ?_
  refine xw_istore_n C d_Ar_fill_1 rfl (by decide) rfl (pc' := 2) rfl ?_
  refine xw_aload_n C 1 d_Ar_fill_2 rfl rfl (pc' := 3) rfl ?_
  refine xw_alen C k 0 (zr_gen hk hC) rfl (v := nI n) rfl d_Ar_fill_3 (pc' := 4) rfl ?_
  refine xw_istore_n C d_Ar_fill_4 rfl (by decide) rfl (pc' := 5) rfl ?_
  refine xw_lv [2, 3, 1, 0] rfl ?_
  exact loop1 n 0 M rfl (by omega) (zfl_0 _ _ _)

set_option maxHeartbeats 4000000 in
set_option maxRecDepth 100000 in
/-- Math.max -/
theorem c_Ma_max (l : Launch) (D : va_G) (ca : Nat → ClassId) (ad : Nat → Nat) (M : Nat → Nat → Int32) (x y : Int32)  : xw_Mi l y_Ma_max (.code y_Ma_max b_Ma_max 2 (some .int) :: zG) { frames := 0, cells := 0, slots := 0, locals := 0 } D zCl (zT ca) [.int x, .int y] (zW ca ad M) (fun _ => True) 0 0 (zW ca ad) (fun r M' => M' = M ∧ r = if x < y then y else x) := by
  intro sz
  refine xw_metF (cc := b_Ma_max) (maxL := 2) (ret := (some .int)) (by decide +kernel) rfl (Nat.le_of_ble_eq_true rfl) (fun p e s m args below meth c hr hlk hnm hsz hKs C => ?_)
  refine xw_lvE (lv' := [(0, .int x), (1, .int y)]) rfl ?_
  refine xw_iload_n C 0 d_Ma_max_0 rfl rfl (pc' := 1) rfl ?_
  refine xw_iload_n C 1 d_Ma_max_1 rfl rfl (pc' := 2) rfl ?_
  refine xw_icmp_lt C (tgt := 9) d_Ma_max_2 (by decide) (pc' := 5) rfl (fun h2 => ?_) (fun h2 => ?_)
  ·
    refine xw_iload_n C 1 d_Ma_max_9 rfl rfl (pc' := 10) rfl ?_
    refine xw_iret C hr hlk (F := zW ca ad) M rfl ?_ d_Ma_max_10
    exact ⟨rfl, by rw [if_pos h2]⟩
  ·
    refine xw_iload_n C 0 d_Ma_max_5 rfl rfl (pc' := 6) rfl ?_
    refine xw_goto C (tgt := 10) d_Ma_max_6 (by decide) ?_
    refine xw_iret C hr hlk (F := zW ca ad) M rfl ?_ d_Ma_max_10
    exact ⟨rfl, by rw [if_neg h2]⟩

set_option maxHeartbeats 4000000 in
set_option maxRecDepth 100000 in
/-- Math.min -/
theorem c_Ma_min (l : Launch) (D : va_G) (ca : Nat → ClassId) (ad : Nat → Nat) (M : Nat → Nat → Int32) (x y : Int32)  : xw_Mi l y_Ma_min (.code y_Ma_min b_Ma_min 2 (some .int) :: zG) { frames := 0, cells := 0, slots := 0, locals := 0 } D zCl (zT ca) [.int x, .int y] (zW ca ad M) (fun _ => True) 0 0 (zW ca ad) (fun r M' => M' = M ∧ r = if y < x then y else x) := by
  intro sz
  refine xw_metF (cc := b_Ma_min) (maxL := 2) (ret := (some .int)) (by decide +kernel) rfl (Nat.le_of_ble_eq_true rfl) (fun p e s m args below meth c hr hlk hnm hsz hKs C => ?_)
  refine xw_lvE (lv' := [(0, .int x), (1, .int y)]) rfl ?_
  refine xw_iload_n C 0 d_Ma_min_0 rfl rfl (pc' := 1) rfl ?_
  refine xw_iload_n C 1 d_Ma_min_1 rfl rfl (pc' := 2) rfl ?_
  refine xw_icmp_gt C (tgt := 9) d_Ma_min_2 (by decide) (pc' := 5) rfl (fun h2 => ?_) (fun h2 => ?_)
  ·
    refine xw_iload_n C 1 d_Ma_min_9 rfl rfl (pc' := 10) rfl ?_
    refine xw_iret C hr hlk (F := zW ca ad) M rfl ?_ d_Ma_min_10
    exact ⟨rfl, by rw [if_pos h2]⟩
  ·
    refine xw_iload_n C 0 d_Ma_min_5 rfl rfl (pc' := 6) rfl ?_
    refine xw_goto C (tgt := 10) d_Ma_min_6 (by decide) ?_
    refine xw_iret C hr hlk (F := zW ca ad) M rfl ?_ d_Ma_min_10
    exact ⟨rfl, by rw [if_neg h2]⟩

theorem xp_xor {a b : Nat} (ha : a < 2 ^ 31) (hb : b < 2 ^ 31) : 0 ≤ nI a ^^^ nI b := by
  have e : nI a ^^^ nI b = nI (a ^^^ b) := by
    apply Int32.toBitVec_inj.mp
    rw [Int32.toBitVec_xor]
    unfold nI
    rw [Int32.toBitVec_ofNat', Int32.toBitVec_ofNat', Int32.toBitVec_ofNat', BitVec.ofNat_xor]
  rw [e]
  exact nI_pos' (Nat.xor_lt_two_pow ha hb)

set_option maxHeartbeats 4000000 in
set_option maxRecDepth 100000 in
/-- Math.floorMod of two numbers that are not negative -/
theorem c_Ma_floorMod (l : Launch) (D : va_G) (ca : Nat → ClassId) (ad : Nat → Nat) (M : Nat → Nat → Int32) (a b : Nat) (ha : a < 2 ^ 31) (h0 : 0 < b) (hb : b < 2 ^ 31) : xw_Mi l y_Ma_floorMod (.code y_Ma_floorMod b_Ma_floorMod 3 (some .int) :: zG) { frames := 0, cells := 0, slots := 0, locals := 0 } D zCl (zT ca) [.int (nI a), .int (nI b)] (zW ca ad M) (fun _ => True) 0 0 (zW ca ad) (fun r M' => M' = M ∧ r = nI (a % b)) := by
  intro sz
  refine xw_metF (cc := b_Ma_floorMod) (maxL := 3) (ret := (some .int)) (by decide +kernel) rfl (Nat.le_of_ble_eq_true rfl) (fun p e s m args below meth c hr hlk hnm hsz hKs C => ?_)
  refine xw_lvE (lv' := [(0, .int (nI a)), (1, .int (nI b))]) rfl ?_
  refine xw_iload_n C 0 d_Ma_floorMod_0 rfl rfl (pc' := 1) rfl ?_
  refine xw_iload_n C 1 d_Ma_floorMod_1 rfl rfl (pc' := 2) rfl ?_
  refine xw_irem C d_Ma_floorMod_2 (nI_ne0 (by omega) (by omega)) (pc' := 3) rfl ?_
  refine xw_topi (y := nI (a % b)) (pk_rem (by omega) (by omega) (by omega)) ?_
  have hm2 : a % b < b := Nat.mod_lt _ (by omega)
  refine xw_istore_n C d_Ma_floorMod_3 rfl (by decide) rfl (pc' := 4) rfl ?_
  refine xw_iload_n C 1 d_Ma_floorMod_4 rfl rfl (pc' := 5) rfl ?_
  refine xw_iload_n C 2 d_Ma_floorMod_5 rfl rfl (pc' := 6) rfl ?_
  refine xw_ixor C d_Ma_floorMod_6 (pc' := 7) rfl ?_
  refine xw_if_ge C (tgt := 18) d_Ma_floorMod_7 (by decide) (pc' := 10) rfl (fun h7 => ?_) (fun h7 => ?_)
  ·
    refine xw_iload_n C 0 d_Ma_floorMod_18 rfl rfl (pc' := 19) rfl ?_
    refine xw_iret C hr hlk (F := zW ca ad) M rfl ?_ d_Ma_floorMod_19
    exact ⟨rfl, rfl⟩
  ·
    exact absurd (xp_xor ha hb) h7

def sp_cm (n : Nat) (per : Nat → Nat) (h : Nat) : Prop := ∀ t, t < n → h % per t = 0
def sp_rd (n : Nat) (per : Nat → Nat) (h : Nat) : Prop := 1 ≤ h ∧ h ≤ 240 ∧ sp_cm n per h ∧ ∀ g, 1 ≤ g → g < h → ¬ sp_cm n per g
def sp_no (n : Nat) (per : Nat → Nat) : Prop := ∀ g, 1 ≤ g → g ≤ 240 → ¬ sp_cm n per g

set_option maxHeartbeats 4000000 in
set_option maxRecDepth 100000 in
/-- isCommonMultiple(h): whether h is a multiple of every period -/
theorem c_Tl_isCommonMultiple (l : Launch) (D : va_G) (ca : Nat → ClassId) (ad : Nat → Nat) (M : Nat → Nat → Int32) (n : Nat) (per : Nat → Nat) (h : Nat) (hn : n ≤ 6) (hz : M 1 0 = nI n) (hper : ∀ t, t < n → M (14 + t) 0 = nI (per t) ∧ 1 ≤ per t ∧ per t ≤ 48) (hh : h < 2 ^ 31) : xw_Mi l y_Tl_isCommonMultiple (.code y_Tl_isCommonMultiple b_Tl_isCommonMultiple 3 (some .boolean) :: zG) { frames := 0, cells := 0, slots := 0, locals := 0 } D zCl (zT ca) [.ref (ad 1), .int (nI h)] (zW ca ad M) (fun _ => True) 0 0 (zW ca ad) (fun r M' => M' = M ∧ (sp_cm n per h ∧ r = nI 1 ∨ ¬ sp_cm n per h ∧ r = nI 0)) := by
  intro sz
  refine xw_met (cc := b_Tl_isCommonMultiple) (maxL := 3) (ret := (some .boolean)) (by decide) rfl (Nat.le_of_ble_eq_true rfl) (fun p e s m args below meth c hr hlk hnm hsz hKs C => ?_)
  have loop1 : ∀ (d : Nat) (i : Nat), n - i = d → i ≤ n → (∀ t, t < i → h % per t = 0) → XW p l e { frames := 0, cells := 0, slots := 0, locals := 0 } s m args below meth c D zCl (va_A (zW ca ad M) sz) s.heap 3 (zW ca ad M) 0 0 (MQ below (va_Qi (fun r M' => M' = M ∧ (sp_cm n per h ∧ r = nI 1 ∨ ¬ sp_cm n per h ∧ r = nI 0)) (xw_B D zCl (zT ca) (va_A (zW ca ad M) sz) (zW ca ad)) (va_A (zW ca ad M) sz)) args s 0 0 (va_A (zW ca ad M) sz)) 2 [(0, .ref (ad 1)), (1, .int (nI h)), (2, .int (nI i))] [] := by
    intro d
    induction d using Nat.strongRecOn with
    | _ d ih =>
      intro i hd hi hall
      refine xw_iload_n C 2 d_Tl_isCommonMultiple_2 rfl rfl (pc' := 3) rfl ?_
      refine xw_aload_n C 0 d_Tl_isCommonMultiple_3 rfl rfl (pc' := 4) rfl ?_
      refine xw_get C u_Tl 1 zr_1 rfl 1 (by decide) k_126 rfl rfl d_Tl_isCommonMultiple_4 (pc' := 7) rfl ?_
      refine xw_topi (y := nI n) hz ?_
      refine xw_icmp_ge C (tgt := 32) d_Tl_isCommonMultiple_7 (by decide) (pc' := 10) rfl (fun h7 => ?_) (fun h7 => ?_)
      ·
        replace h7 : n ≤ i := (nI_leI (by omega) (by omega)).mp h7
        refine xw_iconst C (v := nI 1) d_Tl_isCommonMultiple_32 (by decide) (pc' := 33) rfl ?_
        refine xw_zret C hr hlk xp_n1 (F := zW ca ad) M rfl ?_ d_Tl_isCommonMultiple_33
        exact ⟨rfl, Or.inl ⟨fun t ht => hall t (by omega), rfl⟩⟩
      ·
        replace h7 : ¬ (n ≤ i) := fun h9 => h7 ((nI_leI (by omega) (by omega)).mpr h9)
        refine xw_iload_n C 1 d_Tl_isCommonMultiple_10 rfl rfl (pc' := 11) rfl ?_
        refine xw_aload_n C 0 d_Tl_isCommonMultiple_11 rfl rfl (pc' := 12) rfl ?_
        refine xw_get C u_Tl 1 zr_1 rfl 0 (by decide) k_123 rfl rfl d_Tl_isCommonMultiple_12 (pc' := 15) rfl ?_
        refine xw_iload_n C 2 d_Tl_isCommonMultiple_15 rfl rfl (pc' := 16) rfl ?_
        refine xw_aald C 2 1 zr_2 rfl i rfl (by omega) (by decide) rfl d_Tl_isCommonMultiple_16 (pc' := 17) rfl ?_
        refine xw_get C u_Tk (14 + i) (zr_Tk (t := i) (by omega)) rfl 0 (by decide) k_91 rfl rfl d_Tl_isCommonMultiple_17 (pc' := 20) rfl ?_
        refine xw_topi (y := nI (per i)) (hper _ (by omega)).1 ?_
        have hpi := hper i (by omega)
        refine xw_irem C d_Tl_isCommonMultiple_20 (nI_ne0 (by omega) (by omega)) (pc' := 21) rfl ?_
        refine xw_topi (y := nI (h % (per i))) (pk_rem (by omega) (by omega) (by omega)) ?_
        have hm20 : h % (per i) < (per i) := Nat.mod_lt _ (by omega)
        refine xw_if_eq C (tgt := 26) d_Tl_isCommonMultiple_21 (by decide) (pc' := 24) rfl (fun h21 => ?_) (fun h21 => ?_)
        ·
          replace h21 : (h % (per i)) = 0 := (xp_eq0 (by omega)).mp h21
          refine xw_iinc C 2 (v := nI (i + 1)) d_Tl_isCommonMultiple_26 rfl (xp_inc1 _) (by decide) rfl (pc' := 29) rfl ?_
          refine xw_goto C (tgt := 2) d_Tl_isCommonMultiple_29 (by decide) ?_
          refine xw_lv [1, 2, 0] rfl ?_
          exact ih (n - (i + 1)) (by omega) (i + 1) rfl (by omega) (fun t ht => by
            rcases Nat.lt_or_ge t i with c9 | c9
            · exact hall t c9
            · rw [show t = i by omega]; exact h21)
        ·
          replace h21 : ¬ ((h % (per i)) = 0) := fun h9 => h21 ((xp_eq0 (by omega)).mpr h9)
          refine xw_iconst C (v := nI 0) d_Tl_isCommonMultiple_24 (by decide) (pc' := 25) rfl ?_
          refine xw_zret C hr hlk xp_n0 (F := zW ca ad) M rfl ?_ d_Tl_isCommonMultiple_25
          exact ⟨rfl, Or.inr ⟨fun h9 => h21 (h9 i (by omega)), rfl⟩⟩
  refine xw_lvE (lv' := [(0, .ref (ad 1)), (1, .int (nI h))]) rfl ?_
  refine xw_iconst C (v := nI 0) d_Tl_isCommonMultiple_0 (by decide) (pc' := 1) rfl ?_
  refine xw_istore_n C d_Tl_isCommonMultiple_1 rfl (by decide) rfl (pc' := 2) rfl ?_
  refine xw_lv [1, 2, 0] rfl ?_
  exact loop1 n 0 rfl (by omega) (fun t ht => by omega)

set_option maxHeartbeats 4000000 in
set_option maxRecDepth 100000 in
/-- commonRound(): the round, or LONG -/
theorem c_Tl_commonRound (l : Launch) (D : va_G) (ca : Nat → ClassId) (ad : Nat → Nat) (M : Nat → Nat → Int32) (n : Nat) (per : Nat → Nat) (hn : n ≤ 6) (hz : M 1 0 = nI n) (hper : ∀ t, t < n → M (14 + t) 0 = nI (per t) ∧ 1 ≤ per t ∧ per t ≤ 48) : xw_Mi l y_Tl_commonRound (.code y_Tl_commonRound b_Tl_commonRound 2 (some .int) :: zG) { frames := 1, cells := 0, slots := 0, locals := 22 } D zCl (zT ca) [.ref (ad 1)] (zW ca ad M) (fun _ => True) 0 0 (zW ca ad) (fun r M' => M' = M ∧ ((∃ h, sp_rd n per h ∧ r = nI h) ∨ sp_no n per ∧ r = -3)) := by
  intro sz
  refine xw_met (cc := b_Tl_commonRound) (maxL := 2) (ret := (some .int)) (by decide) rfl (Nat.le_of_ble_eq_true rfl) (fun p e s m args below meth c hr hlk hnm hsz hKs C => ?_)
  have loop1 : ∀ (d : Nat) (i : Nat), 241 - i = d → 1 ≤ i → i ≤ 241 → (∀ g, 1 ≤ g → g < i → ¬ sp_cm n per g) → XW p l e { frames := 1, cells := 0, slots := 0, locals := 22 } s m args below meth c D zCl (va_A (zW ca ad M) sz) s.heap 2 (zW ca ad M) 0 0 (MQ below (va_Qi (fun r M' => M' = M ∧ ((∃ h, sp_rd n per h ∧ r = nI h) ∨ sp_no n per ∧ r = -3)) (xw_B D zCl (zT ca) (va_A (zW ca ad M) sz) (zW ca ad)) (va_A (zW ca ad M) sz)) args s 0 0 (va_A (zW ca ad M) sz)) 2 [(0, .ref (ad 1)), (1, .int (nI i))] [] := by
    intro d
    induction d using Nat.strongRecOn with
    | _ d ih =>
      intro i hd h1i hi hall
      refine xw_iload_n C 1 d_Tl_commonRound_2 rfl rfl (pc' := 3) rfl ?_
      refine xw_sipush C (v := nI 240) d_Tl_commonRound_3 (by decide) (pc' := 6) rfl ?_
      refine xw_icmp_gt C (tgt := 25) d_Tl_commonRound_6 (by decide) (pc' := 9) rfl (fun h6 => ?_) (fun h6 => ?_)
      ·
        replace h6 : 240 < i := (nI_ltI (by omega) (by omega)).mp h6
        refine xw_bipush C (v := (-3)) d_Tl_commonRound_25 (by decide) (pc' := 27) rfl ?_
        refine xw_iret C hr hlk (F := zW ca ad) M rfl ?_ d_Tl_commonRound_27
        exact ⟨rfl, Or.inr ⟨fun g h1 h2 => hall g h1 (by omega), rfl⟩⟩
      ·
        replace h6 : ¬ (240 < i) := fun h9 => h6 ((nI_ltI (by omega) (by omega)).mpr h9)
        refine xw_aload_n C 0 d_Tl_commonRound_9 rfl rfl (pc' := 10) rfl ?_
        refine xw_iload_n C 1 d_Tl_commonRound_10 rfl rfl (pc' := 11) rfl ?_
        refine xw_callVi C (c_Tl_isCommonMultiple l D ca ad M n per i hn hz hper (by omega)) ⟨zg_B C 1 k_215 k_25 k_218 q_Tl_isCommonMultiple ⟨by decide, by decide⟩, C.2.2.2.2.1 _ k_217, C.2.2.2.2.1 _ k_0⟩ 1 zr_1 rfl rfl (fun _ _ _ _ h => h) (fun _ _ _ _ _ _ _ => trivial) rfl rfl (Nat.le_of_ble_eq_true rfl) d_Tl_commonRound_11 ⟨by decide, by decide⟩ (pc' := 14) rfl (fun r51 M52 hp53 => ?_)
        obtain ⟨hme, hp53⟩ := hp53
        rw [hme]
        clear hme
        rcases hp53 with ⟨hcm, rfl⟩ | ⟨hcm, rfl⟩
        ·
          refine xw_if_eq C (tgt := 19) d_Tl_commonRound_14 (by decide) (pc' := 17) rfl (fun h14 => ?_) (fun h14 => ?_)
          ·
            replace h14 : 1 = 0 := (xp_eq0 (by omega)).mp h14
            omega
          ·
            replace h14 : ¬ (1 = 0) := fun h9 => h14 ((xp_eq0 (by omega)).mpr h9)
            refine xw_iload_n C 1 d_Tl_commonRound_17 rfl rfl (pc' := 18) rfl ?_
            refine xw_iret C hr hlk (F := zW ca ad) M rfl ?_ d_Tl_commonRound_18
            exact ⟨rfl, Or.inl ⟨i, ⟨by omega, by omega, hcm, hall⟩, rfl⟩⟩
        ·
          refine xw_if_eq C (tgt := 19) d_Tl_commonRound_14 (by decide) (pc' := 17) rfl (fun h14 => ?_) (fun h14 => ?_)
          ·
            replace h14 : 0 = 0 := (xp_eq0 (by omega)).mp h14
            refine xw_iinc C 1 (v := nI (i + 1)) d_Tl_commonRound_19 rfl (xp_inc1 _) (by decide) rfl (pc' := 22) rfl ?_
            refine xw_goto C (tgt := 2) d_Tl_commonRound_22 (by decide) ?_
            refine xw_lv [1, 0] rfl ?_
            exact ih (241 - (i + 1)) (by omega) (i + 1) rfl (by omega) (by omega) (fun g h1 h2 => by
              rcases Nat.lt_or_ge g i with c9 | c9
              · exact hall g h1 c9
              · rw [show g = i by omega]; exact hcm)
          ·
            replace h14 : ¬ (0 = 0) := fun h9 => h14 ((xp_eq0 (by omega)).mpr h9)
            omega
  refine xw_lvE (lv' := [(0, .ref (ad 1))]) rfl ?_
  refine xw_iconst C (v := nI 1) d_Tl_commonRound_0 (by decide) (pc' := 1) rfl ?_
  refine xw_istore_n C d_Tl_commonRound_1 rfl (by decide) rfl (pc' := 2) rfl ?_
  refine xw_lv [1, 0] rfl ?_
  exact loop1 240 1 rfl (by omega) (by omega) (fun g h1 h2 => by omega)
