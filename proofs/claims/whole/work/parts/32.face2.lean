theorem xp_nem3 {a : Nat} (h : a < 2 ^ 31) : ¬ nI a = -3 := by
  intro q
  have e := nI_toInt h
  rw [q] at e
  have e2 : (-3 : Int32).toInt = -3 := by decide
  rw [e2] at e
  omega
/-- the owner of tick x of the round, as the simulation gives it -/
def pl_g (n : Nat) (per wk dl of : Nat → Nat) (h x : Nat) : Option Nat := pl_who n per wk dl of (xs_mx of n + h + (x + h - (xs_mx of n + h) % h) % h)
theorem pl_gc {a h x : Nat} (hx : x < h) : a ≤ a + (x + h - a % h) % h ∧ a + (x + h - a % h) % h < a + h ∧ (a + (x + h - a % h) % h) % h = x := by
  have hp : 0 < h := by omega
  have q := Nat.mod_lt (x + h - a % h) hp
  have r := Nat.mod_lt a hp
  refine ⟨by omega, by omega, ?_⟩
  rw [Nat.add_mod_mod]
  have e := Nat.div_add_mod a h
  have e2 : a + (x + h - a % h) = x + h * (a / h + 1) := by
    rw [Nat.mul_succ]
    omega
  rw [e2, Nat.add_mul_mod_self_left, Nat.mod_eq_of_lt hx]
theorem pl_who_lt {n : Nat} {per wk dl of : Nat → Nat} {c t : Nat} (h : pl_who n per wk dl of c = some t) : t < n := (pl_pk_lt h).1
theorem pl_g_of {n : Nat} {per wk dl of : Nat → Nat} {h : Nat} {g : Nat → Int32} (hg : ∀ u, xs_mx of n + h ≤ u → u < xs_mx of n + h + h → g (u % h) = oI (pl_who n per wk dl of u)) : ∀ x, x < h → g x = oI (pl_g n per wk dl of h x) ∧ ∀ t, pl_g n per wk dl of h x = some t → t < n := by
  intro x hx
  obtain ⟨h1, h2, h3⟩ := pl_gc (a := xs_mx of n + h) hx
  have q := hg _ h1 h2
  rw [h3] at q
  exact ⟨q, fun t ht => pl_who_lt ht⟩
/-- what synthesize answers and leaves: k3: where the number of slots lies; its three rows -/
def sp_syn (n : Nat) (per wk dl of : Nat → Nat) (r sz : Int32) (M : Nat → Nat → Int32) (k4 k5 k6 : Nat) : Prop := (sp_no n per ∧ r = -3 ∧ sz = nI 0) ∨ ∃ h, sp_rd n per h ∧ ((¬ pl_ok n per wk dl of h ∧ r = -2 ∧ sz = nI 0) ∨ (pl_ok n per wk dl of h ∧ ¬ (bs (pl_g n per wk dl of h) h).length ≤ 60 ∧ r = -3 ∧ sz = nI 0) ∨ (pl_ok n per wk dl of h ∧ (bs (pl_g n per wk dl of h) h).length ≤ 60 ∧ r = nI (bs (pl_g n per wk dl of h) h).length ∧ sz = nI (bs (pl_g n per wk dl of h) h).length ∧ bsR M k4 k5 k6 (bs (pl_g n per wk dl of h) h)))
theorem sp_rd_one {n : Nat} {per : Nat → Nat} {h h' : Nat} (a : sp_rd n per h) (b : sp_rd n per h') : h = h' := by
  rcases Nat.lt_trichotomy h h' with c | c | c
  · exact absurd a.2.2.1 (b.2.2.2 h a.1 c)
  · exact c
  · exact absurd b.2.2.1 (a.2.2.2 h' b.1 c)
theorem sp_srv_eq {g g' : Nat → Int32} {t h pr w d o : Nat} (hh : 0 < h) (he : ∀ u, u < h → g u = g' u) : sp_srv g t h pr w d o ↔ sp_srv g' t h pr w d o := by
  have e : ∀ f m, sp_cnt g t h f m = sp_cnt g' t h f m := fun f m => xs_congr (fun j _ => by rw [he _ (Nat.mod_lt _ hh)])
  unfold sp_srv
  constructor
  · intro q k hk
    rw [← e, ← e]; exact q k hk
  · intro q k hk
    rw [e, e]; exact q k hk
/-- the table is good, h being the round -/
def sp_chk (n : Nat) (per wk dl of : Nat → Nat) (k : Nat) (st ln tk : Nat → Nat) (h : Nat) : Prop := sp_rd n per h ∧ sp_tab st ln k h ∧ ∀ t, t < n → sp_srv (fun u => oI (sp_at st ln tk k u)) t h (per t) (wk t) (dl t) (of t)
theorem sp_no_rd {n : Nat} {per : Nat → Nat} {h : Nat} (a : sp_no n per) (b : sp_rd n per h) : False := a h b.1 b.2.1 b.2.2.1

set_option maxHeartbeats 4000000 in
set_option maxRecDepth 100000 in
/-- synthesize -/
theorem c_Ex_synthesize (l : Launch) (hl0 : l.stackTraces = false) (D : va_G) (ca : Nat → ClassId) (ad : Nat → Nat) (M : Nat → Nat → Int32) (sa : Nat → Nat) (md : Nat) (n : Nat) (per wk dl of : Nat → Nat) (hmd : M 0 0 = nI md) (hmb : md ≤ 1) (hT : tkOK M n per wk dl of) : xw_Xi l y_Ex_synthesize (.code y_Ex_synthesize b_Ex_synthesize 2 (some .int) :: zG) { frames := 7, cells := 1, slots := 6, locals := 120 } D zCl (zT ca) [.ref (ad 0)] (zW ca ad M) (fun U => zKX sa (va_A (zW ca ad M) U.heap.size) U U.heap) 1 6 (zW ca ad) (fun r M' => md = 0 ∧ (∀ a b, a ≠ 3 → a ≠ 4 → a ≠ 5 → a ≠ 6 → a ≠ 8 → a ≠ 9 → a ≠ 13 → M' a b = M a b) ∧ sp_syn n per wk dl of r (M' 3 0) M' 4 5 6) (fun E M' => M' = M ∧ (md = 1 ∧ E = "java/lang/IllegalStateException" ∨ False)) := by
  intro sz
  refine xw_metX (cc := b_Ex_synthesize) (maxL := 2) (ret := (some .int)) (by decide) rfl (Nat.le_of_ble_eq_true rfl) (fun p e s m args below meth c hr hlk hno hsz hKs C => ?_)
  rw [hsz] at hKs
  have hKs : zKX sa (va_A (zW ca ad M) sz) s s.heap := hKs
  refine xw_lvE (lv' := [(0, .ref (ad 0))]) rfl ?_
  refine xw_aload_n C 0 d_Ex_synthesize_0 rfl rfl (pc' := 1) rfl ?_
  refine xw_callXVv C (c_Ex_needEdit l hl0 D ca ad M sa md hmd hmb) ⟨zg_B C 0 k_236 k_24 k_239 q_Ex_needEdit ⟨by decide, by decide⟩, C.2.2.2.2.1 _ k_238, C.2.2.2.2.1 _ k_1⟩ 0 zr_0 rfl rfl (fun _ _ _ _ h => h.call) (fun _ _ _ hD hS hU hW => hKs.at C.2.2.2.2.2.2 hD hS hU hW) rfl rfl (Nat.le_of_ble_eq_true rfl) d_Ex_synthesize_1 ⟨by decide, by decide⟩ (pc' := 4) rfl (fun E u hx => xx_out C hlk hno (F := zW ca ad) u rfl (by exact ⟨hx.1, Or.inl ⟨hx.2.2, hx.2.1⟩⟩) (by decide) (by decide)) (fun M2 hp3 => ?_)
  obtain ⟨hme, hmd0⟩ := hp3
  rw [hme]
  clear hme
  refine xw_aload_n C 0 d_Ex_synthesize_4 rfl rfl (pc' := 5) rfl ?_
  refine xw_get C u_Ex 0 zr_0 rfl 1 (by decide) k_183 rfl rfl d_Ex_synthesize_5 (pc' := 8) rfl ?_
  refine xw_iconst C (v := nI 0) d_Ex_synthesize_8 (by decide) (pc' := 9) rfl ?_
  obtain ⟨M4, hM4⟩ : ∃ zq, zq = zst M 3 0 (nI 0) := ⟨_, rfl⟩
  refine xw_put C u_Tb t_Tb t_Tb_ok n_Tb 3 zr_3 rfl 3 (by decide) k_144 rfl rfl (t_Tb_ok 3 (by decide)) rfl rfl (Nat.le_of_ble_eq_true rfl) (ws' := zW ca ad M4) (by rw [hM4]; exact zs_3_0 _) d_Ex_synthesize_9 (pc' := 12) rfl ?_
  have hT1 : tkOK M4 n per wk dl of := hT.keep (by rw [hM4, zst_ap, if_neg (fun h9 => absurd h9.1 (by decide))]) (fun t j ht => by rw [hM4, zst_ap, if_neg (fun h9 => absurd h9.1 (by omega))])
  refine xw_aload_n C 0 d_Ex_synthesize_12 rfl rfl (pc' := 13) rfl ?_
  refine xw_get C u_Ex 0 zr_0 rfl 0 (by decide) k_182 rfl rfl d_Ex_synthesize_13 (pc' := 16) rfl ?_
  refine xw_callVi C (c_Tl_commonRound l D ca ad M4 n per hT1.1 hT1.2.1 hT1.per) ⟨zg_B C 0 k_211 k_25 k_214 q_Tl_commonRound ⟨by decide, by decide⟩, C.2.2.2.2.1 _ k_212, C.2.2.2.2.1 _ k_213⟩ 1 zr_1 rfl rfl (fun _ _ _ _ h => h) (fun _ _ _ _ _ _ _ => trivial) rfl rfl (Nat.le_of_ble_eq_true rfl) d_Ex_synthesize_16 ⟨by decide, by decide⟩ (pc' := 19) rfl (fun r5 M6 hp7 => ?_)
  obtain ⟨hme, hre⟩ := hp7
  rw [hme]
  clear hme
  rcases hre with ⟨h, hrd, hre⟩ | ⟨hnr, hre⟩
  ·
    rw [hre]
    have hh1 := hrd.1
    have hh2 := hrd.2.1
    refine xw_istore_n C d_Ex_synthesize_19 rfl (by decide) rfl (pc' := 20) rfl ?_
    refine xw_iload_n C 0 d_Ex_synthesize_20 rfl rfl (pc' := 21) rfl ?_
    refine xw_bipush C (v := (-3)) d_Ex_synthesize_21 (by decide) (pc' := 23) rfl ?_
    refine xw_icmp_ne C (tgt := 29) d_Ex_synthesize_23 (by decide) (pc' := 26) rfl (fun h23 => ?_) (fun h23 => ?_)
    ·
      refine xw_aload_n C 1 d_Ex_synthesize_29 rfl rfl (pc' := 30) rfl ?_
      refine xw_get C u_Ex 0 zr_0 rfl 2 (by decide) k_184 rfl rfl d_Ex_synthesize_30 (pc' := 33) rfl ?_
      refine xw_aload_n C 1 d_Ex_synthesize_33 rfl rfl (pc' := 34) rfl ?_
      refine xw_get C u_Ex 0 zr_0 rfl 0 (by decide) k_182 rfl rfl d_Ex_synthesize_34 (pc' := 37) rfl ?_
      refine xw_aload_n C 1 d_Ex_synthesize_37 rfl rfl (pc' := 38) rfl ?_
      refine xw_get C u_Ex 0 zr_0 rfl 4 (by decide) k_186 rfl rfl d_Ex_synthesize_38 (pc' := 41) rfl ?_
      refine xw_iload_n C 0 d_Ex_synthesize_41 rfl rfl (pc' := 42) rfl ?_
      refine xw_callVi C (c_Pl_plan l D ca ad M4 n per wk dl of h hT1 hh1 hh2) ⟨zg_B C 3 k_387 k_29 k_390 q_Pl_plan ⟨by decide, by decide⟩, C.2.2.2.2.1 _ k_388, C.2.2.2.2.1 _ k_389⟩ 7 zr_7 rfl rfl (fun _ _ _ _ h => h) (fun _ _ _ _ _ _ _ => trivial) rfl rfl (Nat.le_of_ble_eq_true rfl) d_Ex_synthesize_42 ⟨by decide, by decide⟩ (pc' := 45) rfl (fun r8 M9 hp10 => ?_)
      obtain ⟨hpf, hpp⟩ := hp10
      have hf2 : ∀ a b, a ≠ 3 → a ≠ 4 → a ≠ 5 → a ≠ 6 → a ≠ 8 → a ≠ 9 → a ≠ 13 → M9 a b = M a b := fun a b h3 h4 h5 h6 h8 h9 h13 => (hpf a b h8 h9 h13).trans (by rw [hM4, zst_ap, if_neg (fun q9 => h3 q9.1)])
      have hz2 : M9 3 0 = nI 0 := (hpf _ _ (by decide) (by decide) (by decide)).trans (by rw [hM4, zst_ap, if_pos ⟨rfl, rfl⟩])
      rcases hpp with ⟨hok, hre, hgo⟩ | ⟨hok, hre⟩
      ·
        rw [hre]
        clear hre
        refine xw_if_ne C (tgt := 51) d_Ex_synthesize_45 (by decide) (pc' := 48) rfl (fun h45 => ?_) (fun h45 => ?_)
        ·
          replace h45 : ¬ (1 = 0) := fun hneg => h45 ((xp_eq0 (by omega)).mpr hneg)
          refine xw_aload_n C 1 d_Ex_synthesize_51 rfl rfl (pc' := 52) rfl ?_
          refine xw_get C u_Ex 0 zr_0 rfl 1 (by decide) k_183 rfl rfl d_Ex_synthesize_52 (pc' := 55) rfl ?_
          refine xw_aload_n C 1 d_Ex_synthesize_55 rfl rfl (pc' := 56) rfl ?_
          refine xw_get C u_Ex 0 zr_0 rfl 4 (by decide) k_186 rfl rfl d_Ex_synthesize_56 (pc' := 59) rfl ?_
          refine xw_iload_n C 0 d_Ex_synthesize_59 rfl rfl (pc' := 60) rfl ?_
          refine xw_callVi C (c_Tb_become l D ca ad M9 (pl_g n per wk dl of h) h hh2 (fun x hx => ⟨(pl_g_of hgo x hx).1, fun t ht => Nat.lt_of_lt_of_le ((pl_g_of hgo x hx).2 t ht) hT.1⟩)) ⟨zg_B C 2 k_419 k_28 k_422 q_Tb_become ⟨by decide, by decide⟩, C.2.2.2.2.1 _ k_420, C.2.2.2.2.1 _ k_421⟩ 3 zr_3 rfl rfl (fun _ _ _ _ h => h) (fun _ _ _ _ _ _ _ => trivial) rfl rfl (Nat.le_of_ble_eq_true rfl) d_Ex_synthesize_60 ⟨by decide, by decide⟩ (pc' := 63) rfl (fun r11 M12 hp13 => ?_)
          obtain ⟨hbf, hbb⟩ := hp13
          have hf3 : ∀ a b, a ≠ 3 → a ≠ 4 → a ≠ 5 → a ≠ 6 → a ≠ 8 → a ≠ 9 → a ≠ 13 → M12 a b = M a b := fun a b h3 h4 h5 h6 h8 h9 h13 => (hbf a b h3 h4 h5 h6).trans (hf2 a b h3 h4 h5 h6 h8 h9 h13)
          rcases hbb with ⟨hlen, hre, hz3, hR3⟩ | ⟨hlen, hre, hz3⟩
          ·
            rw [hre]
            clear hre
            refine xw_if_eq C (tgt := 76) d_Ex_synthesize_63 (by decide) (pc' := 66) rfl (fun h63 => ?_) (fun h63 => ?_)
            ·
              replace h63 : 1 = 0 := (xp_eq0 (by omega)).mp h63
              omega
            ·
              replace h63 : ¬ (1 = 0) := fun hneg => h63 ((xp_eq0 (by omega)).mpr hneg)
              refine xw_aload_n C 1 d_Ex_synthesize_66 rfl rfl (pc' := 67) rfl ?_
              refine xw_get C u_Ex 0 zr_0 rfl 1 (by decide) k_183 rfl rfl d_Ex_synthesize_67 (pc' := 70) rfl ?_
              refine xw_get C u_Tb 3 zr_3 rfl 3 (by decide) k_144 rfl rfl d_Ex_synthesize_70 (pc' := 73) rfl ?_
              refine xw_topi (y := nI ((bs (pl_g n per wk dl of h) h).length)) hz3 ?_
              refine xw_goto C (tgt := 78) d_Ex_synthesize_73 (by decide) ?_
              refine xw_iretX C hr hlk (F := zW ca ad) M12 rfl ?_ d_Ex_synthesize_78 (by decide) (by decide)
              exact ⟨hmd0, hf3, Or.inr ⟨h, hrd, Or.inr (Or.inr ⟨hok, hlen, rfl, hz3, hR3⟩)⟩⟩
          ·
            rw [hre]
            clear hre
            refine xw_if_eq C (tgt := 76) d_Ex_synthesize_63 (by decide) (pc' := 66) rfl (fun h63 => ?_) (fun h63 => ?_)
            ·
              replace h63 : 0 = 0 := (xp_eq0 (by omega)).mp h63
              refine xw_bipush C (v := (-3)) d_Ex_synthesize_76 (by decide) (pc' := 78) rfl ?_
              refine xw_iretX C hr hlk (F := zW ca ad) M12 rfl ?_ d_Ex_synthesize_78 (by decide) (by decide)
              exact ⟨hmd0, hf3, Or.inr ⟨h, hrd, Or.inr (Or.inl ⟨hok, hlen, rfl, hz3⟩)⟩⟩
            ·
              replace h63 : ¬ (0 = 0) := fun hneg => h63 ((xp_eq0 (by omega)).mpr hneg)
              omega
        ·
          replace h45 : 1 = 0 := (xp_eq0 (by omega)).mp h45
          omega
      ·
        rw [hre]
        clear hre
        refine xw_if_ne C (tgt := 51) d_Ex_synthesize_45 (by decide) (pc' := 48) rfl (fun h45 => ?_) (fun h45 => ?_)
        ·
          replace h45 : ¬ (0 = 0) := fun hneg => h45 ((xp_eq0 (by omega)).mpr hneg)
          omega
        ·
          replace h45 : 0 = 0 := (xp_eq0 (by omega)).mp h45
          refine xw_bipush C (v := (-2)) d_Ex_synthesize_48 (by decide) (pc' := 50) rfl ?_
          refine xw_iretX C hr hlk (F := zW ca ad) M9 rfl ?_ d_Ex_synthesize_50 (by decide) (by decide)
          exact ⟨hmd0, hf2, Or.inr ⟨h, hrd, Or.inl ⟨hok, rfl, hz2⟩⟩⟩
    ·
      exact absurd h23 (xp_nem3 (by omega))
  ·
    rw [hre]
    refine xw_istore_n C d_Ex_synthesize_19 rfl (by decide) rfl (pc' := 20) rfl ?_
    refine xw_iload_n C 0 d_Ex_synthesize_20 rfl rfl (pc' := 21) rfl ?_
    refine xw_bipush C (v := (-3)) d_Ex_synthesize_21 (by decide) (pc' := 23) rfl ?_
    refine xw_icmp_ne C (tgt := 29) d_Ex_synthesize_23 (by decide) (pc' := 26) rfl (fun h23 => ?_) (fun h23 => ?_)
    ·
      exact absurd rfl h23
    ·
      refine xw_bipush C (v := (-3)) d_Ex_synthesize_26 (by decide) (pc' := 28) rfl ?_
      refine xw_iretX C hr hlk (F := zW ca ad) M4 rfl ?_ d_Ex_synthesize_28 (by decide) (by decide)
      exact ⟨hmd0, fun a b h3 h4 h5 h6 h8 h9 h13 => by rw [hM4, zst_ap, if_neg (fun q9 => h3 q9.1)], Or.inl ⟨hnr, rfl, by rw [hM4, zst_ap, if_pos ⟨rfl, rfl⟩]⟩⟩

set_option maxHeartbeats 4000000 in
set_option maxRecDepth 100000 in
/-- check -/
theorem c_Ex_check (l : Launch) (hl0 : l.stackTraces = false) (D : va_G) (ca : Nat → ClassId) (ad : Nat → Nat) (M : Nat → Nat → Int32) (sa : Nat → Nat) (md : Nat) (n : Nat) (per wk dl of : Nat → Nat) (k : Nat) (st ln tk : Nat → Nat) (hmd : M 0 0 = nI md) (hmb : md ≤ 1) (hT : tkOK M n per wk dl of) (hS : slOK M k st ln tk) : xw_Xi l y_Ex_check (.code y_Ex_check b_Ex_check 2 (some .boolean) :: zG) { frames := 7, cells := 1, slots := 6, locals := 120 } D zCl (zT ca) [.ref (ad 0)] (zW ca ad M) (fun U => zKX sa (va_A (zW ca ad M) U.heap.size) U U.heap) 1 6 (zW ca ad) (fun r M' => md = 0 ∧ (r = nI 1 ∧ (∃ h M1, sp_chk n per wk dl of k st ln tk h ∧ (∀ a b, a ≠ 13 → M1 a b = M a b) ∧ (∀ u, u < 240 → M1 13 u = oI (sp_at st ln tk k u)) ∧ M' = zSta M1 n h) ∨ r = nI 0 ∧ (∀ a b, a ≠ 13 → M' a b = M a b) ∧ ¬ ∃ h, sp_chk n per wk dl of k st ln tk h)) (fun E M' => M' = M ∧ (md = 1 ∧ E = "java/lang/IllegalStateException" ∨ False)) := by
  intro sz
  refine xw_metX (cc := b_Ex_check) (maxL := 2) (ret := (some .boolean)) (by decide) rfl (Nat.le_of_ble_eq_true rfl) (fun p e s m args below meth c hr hlk hno hsz hKs C => ?_)
  rw [hsz] at hKs
  have hKs : zKX sa (va_A (zW ca ad M) sz) s s.heap := hKs
  have hn6 := hT.1
  refine xw_lvE (lv' := [(0, .ref (ad 0))]) rfl ?_
  refine xw_aload_n C 0 d_Ex_check_0 rfl rfl (pc' := 1) rfl ?_
  refine xw_callXVv C (c_Ex_needEdit l hl0 D ca ad M sa md hmd hmb) ⟨zg_B C 0 k_236 k_24 k_239 q_Ex_needEdit ⟨by decide, by decide⟩, C.2.2.2.2.1 _ k_238, C.2.2.2.2.1 _ k_1⟩ 0 zr_0 rfl rfl (fun _ _ _ _ h => h.call) (fun _ _ _ hD hS hU hW => hKs.at C.2.2.2.2.2.2 hD hS hU hW) rfl rfl (Nat.le_of_ble_eq_true rfl) d_Ex_check_1 ⟨by decide, by decide⟩ (pc' := 4) rfl (fun E u hx => xx_out C hlk hno (F := zW ca ad) u rfl (by exact ⟨hx.1, Or.inl ⟨hx.2.2, hx.2.1⟩⟩) (by decide) (by decide)) (fun M2 hp3 => ?_)
  obtain ⟨hme, hmd0⟩ := hp3
  rw [hme]
  clear hme
  refine xw_aload_n C 0 d_Ex_check_4 rfl rfl (pc' := 5) rfl ?_
  refine xw_get C u_Ex 0 zr_0 rfl 0 (by decide) k_182 rfl rfl d_Ex_check_5 (pc' := 8) rfl ?_
  refine xw_callVi C (c_Tl_commonRound l D ca ad M n per hT.1 hT.2.1 hT.per) ⟨zg_B C 0 k_211 k_25 k_214 q_Tl_commonRound ⟨by decide, by decide⟩, C.2.2.2.2.1 _ k_212, C.2.2.2.2.1 _ k_213⟩ 1 zr_1 rfl rfl (fun _ _ _ _ h => h) (fun _ _ _ _ _ _ _ => trivial) rfl rfl (Nat.le_of_ble_eq_true rfl) d_Ex_check_8 ⟨by decide, by decide⟩ (pc' := 11) rfl (fun r4 M5 hp6 => ?_)
  obtain ⟨hme, hre⟩ := hp6
  rw [hme]
  clear hme
  rcases hre with ⟨h, hrd, hre⟩ | ⟨hnr, hre⟩
  ·
    rw [hre]
    have hh1 := hrd.1
    have hh2 := hrd.2.1
    refine xw_istore_n C d_Ex_check_11 rfl (by decide) rfl (pc' := 12) rfl ?_
    refine xw_iload_n C 0 d_Ex_check_12 rfl rfl (pc' := 13) rfl ?_
    refine xw_bipush C (v := (-3)) d_Ex_check_13 (by decide) (pc' := 15) rfl ?_
    refine xw_icmp_eq C (tgt := 48) d_Ex_check_15 (by decide) (pc' := 18) rfl (fun h15 => ?_) (fun h15 => ?_)
    ·
      exact absurd h15 (xp_nem3 (by omega))
    ·
      refine xw_aload_n C 1 d_Ex_check_18 rfl rfl (pc' := 19) rfl ?_
      refine xw_get C u_Ex 0 zr_0 rfl 1 (by decide) k_183 rfl rfl d_Ex_check_19 (pc' := 22) rfl ?_
      refine xw_aload_n C 1 d_Ex_check_22 rfl rfl (pc' := 23) rfl ?_
      refine xw_get C u_Ex 0 zr_0 rfl 4 (by decide) k_186 rfl rfl d_Ex_check_23 (pc' := 26) rfl ?_
      refine xw_iload_n C 0 d_Ex_check_26 rfl rfl (pc' := 27) rfl ?_
      refine xw_callVi C (c_Tb_spread l D ca ad M k st ln tk h hS hh1 hh2) ⟨zg_B C 2 k_465 k_28 k_468 q_Tb_spread ⟨by decide, by decide⟩, C.2.2.2.2.1 _ k_466, C.2.2.2.2.1 _ k_467⟩ 3 zr_3 rfl rfl (fun _ _ _ _ h => h) (fun _ _ _ _ _ _ _ => trivial) rfl rfl (Nat.le_of_ble_eq_true rfl) d_Ex_check_27 ⟨by decide, by decide⟩ (pc' := 30) rfl (fun r7 M8 hp9 => ?_)
      obtain ⟨hsf, hss⟩ := hp9
      have hT2 : tkOK M8 n per wk dl of := hT.keep (hsf _ _ (by decide)) (fun t j ht => hsf _ _ (by omega))
      rcases hss with ⟨htb, hre, hat⟩ | ⟨htb, hre⟩
      ·
        rw [hre]
        clear hre
        refine xw_if_eq C (tgt := 48) d_Ex_check_30 (by decide) (pc' := 33) rfl (fun h30 => ?_) (fun h30 => ?_)
        ·
          replace h30 : 1 = 0 := (xp_eq0 (by omega)).mp h30
          omega
        ·
          replace h30 : ¬ (1 = 0) := fun hneg => h30 ((xp_eq0 (by omega)).mpr hneg)
          refine xw_aload_n C 1 d_Ex_check_33 rfl rfl (pc' := 34) rfl ?_
          refine xw_get C u_Ex 0 zr_0 rfl 0 (by decide) k_182 rfl rfl d_Ex_check_34 (pc' := 37) rfl ?_
          refine xw_aload_n C 1 d_Ex_check_37 rfl rfl (pc' := 38) rfl ?_
          refine xw_get C u_Ex 0 zr_0 rfl 4 (by decide) k_186 rfl rfl d_Ex_check_38 (pc' := 41) rfl ?_
          refine xw_iload_n C 0 d_Ex_check_41 rfl rfl (pc' := 42) rfl ?_
          refine xw_callVi C (c_Tl_areServed l D ca ad M8 n per wk dl of h hT2 hh1 hh2) ⟨zg_B C 2 k_470 k_25 k_473 q_Tl_areServed ⟨by decide, by decide⟩, C.2.2.2.2.1 _ k_471, C.2.2.2.2.1 _ k_472⟩ 1 zr_1 rfl rfl (fun _ _ _ _ h => h) (fun _ _ _ _ _ _ _ => trivial) rfl rfl (Nat.le_of_ble_eq_true rfl) d_Ex_check_42 ⟨by decide, by decide⟩ (pc' := 45) rfl (fun r10 M11 hp12 => ?_)
          obtain ⟨hme, hss⟩ := hp12
          rw [hme]
          clear hme
          rcases hss with ⟨hsv, hre⟩ | ⟨hsv, hre⟩
          ·
            rw [hre]
            clear hre
            refine xw_if_ne C (tgt := 50) d_Ex_check_45 (by decide) (pc' := 48) rfl (fun h45 => ?_) (fun h45 => ?_)
            ·
              replace h45 : ¬ (1 = 0) := fun hneg => h45 ((xp_eq0 (by omega)).mpr hneg)
              refine xw_aload_n C 1 d_Ex_check_50 rfl rfl (pc' := 51) rfl ?_
              refine xw_iload_n C 0 d_Ex_check_51 rfl rfl (pc' := 52) rfl ?_
              refine xw_callVv C (c_Ex_startRun l D ca ad M8 n h (by omega) hT2.2.1) ⟨zg_B C 1 k_481 k_24 k_484 q_Ex_startRun ⟨by decide, by decide⟩, C.2.2.2.2.1 _ k_483, C.2.2.2.2.1 _ k_6⟩ 0 zr_0 rfl rfl (fun _ _ _ _ h => h) (fun _ _ _ _ _ _ _ => trivial) rfl rfl (Nat.le_of_ble_eq_true rfl) d_Ex_check_52 ⟨by decide, by decide⟩ (pc' := 55) rfl (fun M14 hp15 => ?_)
              have hM14 := hp15
              refine xw_iconst C (v := nI 1) d_Ex_check_55 (by decide) (pc' := 56) rfl ?_
              refine xw_zretX C hr hlk xp_n1 (F := zW ca ad) M14 rfl ?_ d_Ex_check_56 (by decide) (by decide)
              exact ⟨hmd0, Or.inl ⟨rfl, h, _, ⟨hrd, htb, fun t ht => (sp_srv_eq (by omega) (fun u hu => hat u (by omega))).mp (hsv t ht)⟩, hsf, hat, hM14⟩⟩
            ·
              replace h45 : 1 = 0 := (xp_eq0 (by omega)).mp h45
              omega
          ·
            rw [hre]
            clear hre
            refine xw_if_ne C (tgt := 50) d_Ex_check_45 (by decide) (pc' := 48) rfl (fun h45 => ?_) (fun h45 => ?_)
            ·
              replace h45 : ¬ (0 = 0) := fun hneg => h45 ((xp_eq0 (by omega)).mpr hneg)
              omega
            ·
              replace h45 : 0 = 0 := (xp_eq0 (by omega)).mp h45
              refine xw_iconst C (v := nI 0) d_Ex_check_48 (by decide) (pc' := 49) rfl ?_
              refine xw_zretX C hr hlk xp_n0 (F := zW ca ad) M8 rfl ?_ d_Ex_check_49 (by decide) (by decide)
              exact ⟨hmd0, Or.inr ⟨rfl, hsf, fun h9 => by obtain ⟨h2, h9⟩ := h9; rw [sp_rd_one h9.1 hrd] at h9; exact hsv (fun t ht => (sp_srv_eq (by omega) (fun u hu => hat u (by omega))).mpr (h9.2.2 t ht))⟩⟩
      ·
        rw [hre]
        clear hre
        refine xw_if_eq C (tgt := 48) d_Ex_check_30 (by decide) (pc' := 33) rfl (fun h30 => ?_) (fun h30 => ?_)
        ·
          replace h30 : 0 = 0 := (xp_eq0 (by omega)).mp h30
          refine xw_iconst C (v := nI 0) d_Ex_check_48 (by decide) (pc' := 49) rfl ?_
          refine xw_zretX C hr hlk xp_n0 (F := zW ca ad) M8 rfl ?_ d_Ex_check_49 (by decide) (by decide)
          exact ⟨hmd0, Or.inr ⟨rfl, hsf, fun h9 => by obtain ⟨h2, h9⟩ := h9; rw [sp_rd_one h9.1 hrd] at h9; exact htb h9.2.1⟩⟩
        ·
          replace h30 : ¬ (0 = 0) := fun hneg => h30 ((xp_eq0 (by omega)).mpr hneg)
          omega
  ·
    rw [hre]
    refine xw_istore_n C d_Ex_check_11 rfl (by decide) rfl (pc' := 12) rfl ?_
    refine xw_iload_n C 0 d_Ex_check_12 rfl rfl (pc' := 13) rfl ?_
    refine xw_bipush C (v := (-3)) d_Ex_check_13 (by decide) (pc' := 15) rfl ?_
    refine xw_icmp_eq C (tgt := 48) d_Ex_check_15 (by decide) (pc' := 18) rfl (fun h15 => ?_) (fun h15 => ?_)
    ·
      refine xw_iconst C (v := nI 0) d_Ex_check_48 (by decide) (pc' := 49) rfl ?_
      refine xw_zretX C hr hlk xp_n0 (F := zW ca ad) M rfl ?_ d_Ex_check_49 (by decide) (by decide)
      exact ⟨hmd0, Or.inr ⟨rfl, fun _ _ _ => rfl, fun h9 => by obtain ⟨h, h9⟩ := h9; exact sp_no_rd hnr h9.1⟩⟩
    ·
      exact absurd rfl h15

set_option maxHeartbeats 4000000 in
set_option maxRecDepth 100000 in
/-- tick -/
theorem c_Ex_tick (l : Launch) (hl0 : l.stackTraces = false) (D : va_G) (ca : Nat → ClassId) (ad : Nat → Nat) (M : Nat → Nat → Int32) (sa : Nat → Nat) (md : Nat) (n : Nat) (per wk dl of : Nat → Nat) (own : Nat → Option Nat) (h tm : Nat) (hmd : M 0 0 = nI md) (hmb : md ≤ 1) (hR : md = 1 → rnOK M n per wk dl of own h tm) (htm : tm < 2 ^ 30) : xw_Xi l y_Ex_tick (.code y_Ex_tick b_Ex_tick 1 (some .int) :: zG) { frames := 7, cells := 1, slots := 6, locals := 120 } D zCl (zT ca) [.ref (ad 0)] (zW ca ad M) (fun U => zKX sa (va_A (zW ca ad M) U.heap.size) U U.heap) 1 6 (zW ca ad) (fun r M' => md = 1 ∧ M' = (tkF n per wk of own h tm M).1 ∧ r = (tkF n per wk of own h tm M).2) (fun E M' => M' = M ∧ (md = 0 ∧ E = "java/lang/IllegalStateException" ∨ False)) := by
  intro sz
  refine xw_metX (cc := b_Ex_tick) (maxL := 1) (ret := (some .int)) (by decide) rfl (Nat.le_of_ble_eq_true rfl) (fun p e s m args below meth c hr hlk hno hsz hKs C => ?_)
  rw [hsz] at hKs
  have hKs : zKX sa (va_A (zW ca ad M) sz) s s.heap := hKs
  refine xw_lvE (lv' := [(0, .ref (ad 0))]) rfl ?_
  refine xw_aload_n C 0 d_Ex_tick_0 rfl rfl (pc' := 1) rfl ?_
  refine xw_callXVv C (c_Ex_needRun l hl0 D ca ad M sa md hmd hmb) ⟨zg_B C 0 k_494 k_24 k_497 q_Ex_needRun ⟨by decide, by decide⟩, C.2.2.2.2.1 _ k_496, C.2.2.2.2.1 _ k_7⟩ 0 zr_0 rfl rfl (fun _ _ _ _ h => h.call) (fun _ _ _ hD hS hU hW => hKs.at C.2.2.2.2.2.2 hD hS hU hW) rfl rfl (Nat.le_of_ble_eq_true rfl) d_Ex_tick_1 ⟨by decide, by decide⟩ (pc' := 4) rfl (fun E u hx => xx_out C hlk hno (F := zW ca ad) u rfl (by exact ⟨hx.1, Or.inl ⟨hx.2.2, hx.2.1⟩⟩) (by decide) (by decide)) (fun M2 hp3 => ?_)
  obtain ⟨hme, hmd0⟩ := hp3
  rw [hme]
  clear hme
  refine xw_aload_n C 0 d_Ex_tick_4 rfl rfl (pc' := 5) rfl ?_
  refine xw_callVi C (c_Ex_runTick l D ca ad M n per wk dl of own h tm (hR hmd0) htm) ⟨zg_B C 0 k_506 k_24 k_509 q_Ex_runTick ⟨by decide, by decide⟩, C.2.2.2.2.1 _ k_508, C.2.2.2.2.1 _ k_8⟩ 0 zr_0 rfl rfl (fun _ _ _ _ h => h) (fun _ _ _ _ _ _ _ => trivial) rfl rfl (Nat.le_of_ble_eq_true rfl) d_Ex_tick_5 ⟨by decide, by decide⟩ (pc' := 8) rfl (fun r4 M5 hp6 => ?_)
  obtain ⟨hM5, hre⟩ := hp6
  refine xw_iretX C hr hlk (F := zW ca ad) M5 rfl ?_ d_Ex_tick_8 (by decide) (by decide)
  exact ⟨hmd0, hM5, hre⟩
