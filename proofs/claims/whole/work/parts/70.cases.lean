/-! The law's cases: both are asked alike and answer alike -/
theorem StOK.x0 {cI cZ : ClassId} {o q : Nat} {X M : va_W} (h : StOK cI cZ o q X M) : ∃ fs, X[0]? = some (o, .inr (4, fs)) := by
  obtain ⟨a, a2, a3, v, v2, v3, hi, lo, ha, le, iA, iB, b0, b1, qs, qi, qk, ql, rfl, rfl, -⟩ := h
  exact ⟨_, rfl⟩
theorem StOK.m0 {cI cZ : ClassId} {o q : Nat} {X M : va_W} (h : StOK cI cZ o q X M) : ∃ fs, M[0]? = some (q, .inr (5, fs)) := by
  obtain ⟨a, a2, a3, v, v2, v3, hi, lo, ha, le, iA, iB, b0, b1, qs, qi, qk, ql, rfl, rfl, -⟩ := h
  exact ⟨_, rfl⟩
section SLD
variable {p : Program} {l : Launch} {e : Env} {R : Room} {s : State} {m : MethodId} {args : Array Value} {below : List Frame} {meth : Method} {c : Code} {H H0 : Heap} {locs : List Loc} {cells slots : Nat} {Q : State → Prop} {cc : ByteArray} {pc nL : Nat} {ls : Array Slot} {rest : List Value} {A : Nat → Prop} {Ts : List Cond} {own : String}
theorem w_sld (S : CallFix p m c cc nL s args Ts own) {b L : Nat} {xs : Nat → Int32} (hX : va_X b L xs s H0) (hbl : b < H0.size) (hbA : ¬ A b) (hS : va_S A H0 H locs) {z : Int} (k : Nat) (hz : z = (k : Int)) (hk : k < L) (hL : L ≤ 3072) (hdg : decode cc pc = .ok (.iaload, 1)) (kk : W p l e R s m args below meth c H locs cells slots Q (F0 m (pc + 1) ls (.int (iI (xs k).toInt) :: rest))) : W p l e R s m args below meth c H locs cells slots Q (F0 m pc ls (.int (iI z) :: .ref b :: rest)) := by
  subst hz
  refine va_sld S.1 S.2.1 hX hbl hbA hS (iI_in hk (by omega)) hdg ?_
  rw [iI_cl (by omega)]
  rw [iI_of] at kk
  exact kk
end SLD
set_option maxHeartbeats 4000000 in
set_option maxRecDepth 100000 in
theorem law_nodes {p : Program} {l : Launch} {e : Env} {s : State} {m : MethodId} {args : Array Value} {below : List Frame} {meth : Method} {c : Code} {Q : State → Prop} {D : va_G} {cI cZ : ClassId} {o q b L i : Nat} {xs : Nat → Int32} {X M : va_W} {H : Heap} {locs : List Loc} {ls : Array Slot} (S : CallFix p m c cL_law 4 s args wsL_law RL) (hE : En D cI cZ s.heap.size s) (hX0 : va_X b L xs s s.heap) (hbl : b < s.heap.size) (hi : i + 6 ≤ L) (hL : L ≤ 3072) (hst : StOK cI cZ o q X M) (hPX : va_P D vwCl X H) (hPM : va_P D vwCl M H) (hD : va_D (fun q : Nat => s.heap.size ≤ q) (X ++ M)) (hS : va_S (fun q : Nat => s.heap.size ≤ q) s.heap H locs) (hl : lv_has ls 4 [(3, .int (iI ((i : Nat) : Int))), (0, .ref b), (1, .ref o), (2, .ref q)]) (kk : ∀ (X M : va_W) (H : Heap) (locs : List Loc), StOK cI cZ o q X M → va_P D vwCl X H → va_P D vwCl M H → va_D (fun q : Nat => s.heap.size ≤ q) (X ++ M) → va_S (fun q : Nat => s.heap.size ≤ q) s.heap H locs → W p l e room_1 s m args below meth c H locs 36 12575 Q (F0 m 687 ls [])) : W p l e room_1 s m args below meth c H locs 36 12575 Q (F0 m 116 ls []) := by
  have hx := S.1
  have hb := S.2.1
  have hbA : ¬ (fun q : Nat => s.heap.size ≤ q) b := Nat.not_le.mpr hbl
  obtain ⟨r, X1, M1, c1, c2, hst1, hx1, hm1⟩ := sim_nodes l D s.heap.size hst (xs (i + 1)).toInt (iI_rng _)
  obtain ⟨fx, gx⟩ := hst.x0
  obtain ⟨fm, gm⟩ := hst.m0
  refine lv_aload_n hx hb dL_law_116 rfl (lv_at hl 2 rfl) ?_
  refine lv_aload_n hx hb dL_law_117 rfl (lv_at hl 1 rfl) ?_
  refine lv_iload_n hx hb dL_law_118 rfl (lv_at hl 0 rfl) ?_
  refine lv_iconst (v := iI 1) hx hb dL_law_119 rfl ?_
  refine w_iadd S dL_law_120 ?_
  refine w_sld S hX0 hbl hbA hS (i + 1) (by omega) (by omega) hL dL_law_121 ?_
  refine kB (n := 1) (ci := 4) S c1 gL_law_X4_nodes rfl rfl (by decide +kernel) rfl rfl ⟨Nat.le_of_ble_eq_true rfl, Nat.le_of_ble_eq_true rfl⟩ hE (fun _ h => h) hPX hPM hD hS hx1 rfl rfl gx rfl hl.1 [] rfl (Nat.le_of_ble_eq_true rfl) dL_law_122 ⟨Nat.le_of_ble_eq_true rfl, Nat.le_of_ble_eq_true rfl⟩ (fun H locs hPX hPM hD hS => ?_)
  refine lv_aload_n hx hb dL_law_125 rfl (lv_at hl 3 rfl) ?_
  refine lv_aload_n hx hb dL_law_126 rfl (lv_at hl 1 rfl) ?_
  refine lv_iload_n hx hb dL_law_127 rfl (lv_at hl 0 rfl) ?_
  refine lv_iconst (v := iI 1) hx hb dL_law_128 rfl ?_
  refine w_iadd S dL_law_129 ?_
  refine w_sld S hX0 hbl hbA hS (i + 1) (by omega) (by omega) hL dL_law_130 ?_
  refine kB (n := 1) (ci := 5) S c2 gL_law_X5_nodes rfl rfl (by decide +kernel) rfl rfl ⟨Nat.le_of_ble_eq_true rfl, Nat.le_of_ble_eq_true rfl⟩ hE (fun _ h => h) hPM hPX hD.comm hS hm1 rfl rfl gm rfl hl.1 [.int r] rfl (Nat.le_of_ble_eq_true rfl) dL_law_131 ⟨Nat.le_of_ble_eq_true rfl, Nat.le_of_ble_eq_true rfl⟩ (fun H locs hPM hPX hD hS => ?_)
  refine lv_icmp_eq (tgt := 687) hx hb dL_law_134 (by decide) (fun _ => ?_) (fun g => absurd rfl g)
  exact kk X1 M1 _ _ hst1 hPX hPM hD.comm hS
set_option maxHeartbeats 4000000 in
set_option maxRecDepth 100000 in
theorem law_link {p : Program} {l : Launch} {e : Env} {s : State} {m : MethodId} {args : Array Value} {below : List Frame} {meth : Method} {c : Code} {Q : State → Prop} {D : va_G} {cI cZ : ClassId} {o q b L i : Nat} {xs : Nat → Int32} {X M : va_W} {H : Heap} {locs : List Loc} {ls : Array Slot} (S : CallFix p m c cL_law 4 s args wsL_law RL) (hE : En D cI cZ s.heap.size s) (hX0 : va_X b L xs s s.heap) (hbl : b < s.heap.size) (hi : i + 6 ≤ L) (hL : L ≤ 3072) (hst : StOK cI cZ o q X M) (hPX : va_P D vwCl X H) (hPM : va_P D vwCl M H) (hD : va_D (fun q : Nat => s.heap.size ≤ q) (X ++ M)) (hS : va_S (fun q : Nat => s.heap.size ≤ q) s.heap H locs) (hl : lv_has ls 4 [(3, .int (iI ((i : Nat) : Int))), (0, .ref b), (1, .ref o), (2, .ref q)]) (kk : ∀ (X M : va_W) (H : Heap) (locs : List Loc), StOK cI cZ o q X M → va_P D vwCl X H → va_P D vwCl M H → va_D (fun q : Nat => s.heap.size ≤ q) (X ++ M) → va_S (fun q : Nat => s.heap.size ≤ q) s.heap H locs → W p l e room_1 s m args below meth c H locs 36 12575 Q (F0 m 687 ls [])) : W p l e room_1 s m args below meth c H locs 36 12575 Q (F0 m 139 ls []) := by
  have hx := S.1
  have hb := S.2.1
  have hbA : ¬ (fun q : Nat => s.heap.size ≤ q) b := Nat.not_le.mpr hbl
  obtain ⟨r, X1, M1, c1, c2, hst1, hx1, hm1⟩ := sim_link l D s.heap.size hst (xs (i + 1)).toInt (xs (i + 2)).toInt (xs (i + 3)).toInt (iI_rng _) (iI_rng _) (iI_rng _)
  obtain ⟨fx, gx⟩ := hst.x0
  obtain ⟨fm, gm⟩ := hst.m0
  refine lv_aload_n hx hb dL_law_139 rfl (lv_at hl 2 rfl) ?_
  refine lv_aload_n hx hb dL_law_140 rfl (lv_at hl 1 rfl) ?_
  refine lv_iload_n hx hb dL_law_141 rfl (lv_at hl 0 rfl) ?_
  refine lv_iconst (v := iI 1) hx hb dL_law_142 rfl ?_
  refine w_iadd S dL_law_143 ?_
  refine w_sld S hX0 hbl hbA hS (i + 1) (by omega) (by omega) hL dL_law_144 ?_
  refine lv_aload_n hx hb dL_law_145 rfl (lv_at hl 1 rfl) ?_
  refine lv_iload_n hx hb dL_law_146 rfl (lv_at hl 0 rfl) ?_
  refine lv_iconst (v := iI 2) hx hb dL_law_147 rfl ?_
  refine w_iadd S dL_law_148 ?_
  refine w_sld S hX0 hbl hbA hS (i + 2) (by omega) (by omega) hL dL_law_149 ?_
  refine lv_aload_n hx hb dL_law_150 rfl (lv_at hl 1 rfl) ?_
  refine lv_iload_n hx hb dL_law_151 rfl (lv_at hl 0 rfl) ?_
  refine lv_iconst (v := iI 3) hx hb dL_law_152 rfl ?_
  refine w_iadd S dL_law_153 ?_
  refine w_sld S hX0 hbl hbA hS (i + 3) (by omega) (by omega) hL dL_law_154 ?_
  refine kB (n := 3) (ci := 4) S c1 gL_law_X4_link rfl rfl (by decide +kernel) rfl rfl ⟨Nat.le_of_ble_eq_true rfl, Nat.le_of_ble_eq_true rfl⟩ hE (fun _ h => h) hPX hPM hD hS hx1 rfl rfl gx rfl hl.1 [] rfl (Nat.le_of_ble_eq_true rfl) dL_law_155 ⟨Nat.le_of_ble_eq_true rfl, Nat.le_of_ble_eq_true rfl⟩ (fun H locs hPX hPM hD hS => ?_)
  refine lv_aload_n hx hb dL_law_158 rfl (lv_at hl 3 rfl) ?_
  refine lv_aload_n hx hb dL_law_159 rfl (lv_at hl 1 rfl) ?_
  refine lv_iload_n hx hb dL_law_160 rfl (lv_at hl 0 rfl) ?_
  refine lv_iconst (v := iI 1) hx hb dL_law_161 rfl ?_
  refine w_iadd S dL_law_162 ?_
  refine w_sld S hX0 hbl hbA hS (i + 1) (by omega) (by omega) hL dL_law_163 ?_
  refine lv_aload_n hx hb dL_law_164 rfl (lv_at hl 1 rfl) ?_
  refine lv_iload_n hx hb dL_law_165 rfl (lv_at hl 0 rfl) ?_
  refine lv_iconst (v := iI 2) hx hb dL_law_166 rfl ?_
  refine w_iadd S dL_law_167 ?_
  refine w_sld S hX0 hbl hbA hS (i + 2) (by omega) (by omega) hL dL_law_168 ?_
  refine lv_aload_n hx hb dL_law_169 rfl (lv_at hl 1 rfl) ?_
  refine lv_iload_n hx hb dL_law_170 rfl (lv_at hl 0 rfl) ?_
  refine lv_iconst (v := iI 3) hx hb dL_law_171 rfl ?_
  refine w_iadd S dL_law_172 ?_
  refine w_sld S hX0 hbl hbA hS (i + 3) (by omega) (by omega) hL dL_law_173 ?_
  refine kB (n := 3) (ci := 5) S c2 gL_law_X5_link rfl rfl (by decide +kernel) rfl rfl ⟨Nat.le_of_ble_eq_true rfl, Nat.le_of_ble_eq_true rfl⟩ hE (fun _ h => h) hPM hPX hD.comm hS hm1 rfl rfl gm rfl hl.1 [.int r] rfl (Nat.le_of_ble_eq_true rfl) dL_law_174 ⟨Nat.le_of_ble_eq_true rfl, Nat.le_of_ble_eq_true rfl⟩ (fun H locs hPM hPX hD hS => ?_)
  refine lv_icmp_eq (tgt := 687) hx hb dL_law_177 (by decide) (fun _ => ?_) (fun g => absurd rfl g)
  exact kk X1 M1 _ _ hst1 hPX hPM hD.comm hS
set_option maxHeartbeats 4000000 in
set_option maxRecDepth 100000 in
theorem law_clock {p : Program} {l : Launch} {e : Env} {s : State} {m : MethodId} {args : Array Value} {below : List Frame} {meth : Method} {c : Code} {Q : State → Prop} {D : va_G} {cI cZ : ClassId} {o q b L i : Nat} {xs : Nat → Int32} {X M : va_W} {H : Heap} {locs : List Loc} {ls : Array Slot} (S : CallFix p m c cL_law 4 s args wsL_law RL) (hE : En D cI cZ s.heap.size s) (hX0 : va_X b L xs s s.heap) (hbl : b < s.heap.size) (hi : i + 6 ≤ L) (hL : L ≤ 3072) (hst : StOK cI cZ o q X M) (hPX : va_P D vwCl X H) (hPM : va_P D vwCl M H) (hD : va_D (fun q : Nat => s.heap.size ≤ q) (X ++ M)) (hS : va_S (fun q : Nat => s.heap.size ≤ q) s.heap H locs) (hl : lv_has ls 4 [(3, .int (iI ((i : Nat) : Int))), (0, .ref b), (1, .ref o), (2, .ref q)]) (kk : ∀ (X M : va_W) (H : Heap) (locs : List Loc), StOK cI cZ o q X M → va_P D vwCl X H → va_P D vwCl M H → va_D (fun q : Nat => s.heap.size ≤ q) (X ++ M) → va_S (fun q : Nat => s.heap.size ≤ q) s.heap H locs → W p l e room_1 s m args below meth c H locs 36 12575 Q (F0 m 687 ls [])) : W p l e room_1 s m args below meth c H locs 36 12575 Q (F0 m 182 ls []) := by
  have hx := S.1
  have hb := S.2.1
  have hbA : ¬ (fun q : Nat => s.heap.size ≤ q) b := Nat.not_le.mpr hbl
  obtain ⟨r, X1, M1, c1, c2, hst1, hx1, hm1⟩ := sim_clock l D s.heap.size hst (xs (i + 1)).toInt (xs (i + 2)).toInt (iI_rng _) (iI_rng _)
  obtain ⟨fx, gx⟩ := hst.x0
  obtain ⟨fm, gm⟩ := hst.m0
  refine lv_aload_n hx hb dL_law_182 rfl (lv_at hl 2 rfl) ?_
  refine lv_aload_n hx hb dL_law_183 rfl (lv_at hl 1 rfl) ?_
  refine lv_iload_n hx hb dL_law_184 rfl (lv_at hl 0 rfl) ?_
  refine lv_iconst (v := iI 1) hx hb dL_law_185 rfl ?_
  refine w_iadd S dL_law_186 ?_
  refine w_sld S hX0 hbl hbA hS (i + 1) (by omega) (by omega) hL dL_law_187 ?_
  refine lv_aload_n hx hb dL_law_188 rfl (lv_at hl 1 rfl) ?_
  refine lv_iload_n hx hb dL_law_189 rfl (lv_at hl 0 rfl) ?_
  refine lv_iconst (v := iI 2) hx hb dL_law_190 rfl ?_
  refine w_iadd S dL_law_191 ?_
  refine w_sld S hX0 hbl hbA hS (i + 2) (by omega) (by omega) hL dL_law_192 ?_
  refine kB (n := 2) (ci := 4) S c1 gL_law_X4_clock rfl rfl (by decide +kernel) rfl rfl ⟨Nat.le_of_ble_eq_true rfl, Nat.le_of_ble_eq_true rfl⟩ hE (fun _ h => h) hPX hPM hD hS hx1 rfl rfl gx rfl hl.1 [] rfl (Nat.le_of_ble_eq_true rfl) dL_law_193 ⟨Nat.le_of_ble_eq_true rfl, Nat.le_of_ble_eq_true rfl⟩ (fun H locs hPX hPM hD hS => ?_)
  refine lv_aload_n hx hb dL_law_196 rfl (lv_at hl 3 rfl) ?_
  refine lv_aload_n hx hb dL_law_197 rfl (lv_at hl 1 rfl) ?_
  refine lv_iload_n hx hb dL_law_198 rfl (lv_at hl 0 rfl) ?_
  refine lv_iconst (v := iI 1) hx hb dL_law_199 rfl ?_
  refine w_iadd S dL_law_200 ?_
  refine w_sld S hX0 hbl hbA hS (i + 1) (by omega) (by omega) hL dL_law_201 ?_
  refine lv_aload_n hx hb dL_law_202 rfl (lv_at hl 1 rfl) ?_
  refine lv_iload_n hx hb dL_law_203 rfl (lv_at hl 0 rfl) ?_
  refine lv_iconst (v := iI 2) hx hb dL_law_204 rfl ?_
  refine w_iadd S dL_law_205 ?_
  refine w_sld S hX0 hbl hbA hS (i + 2) (by omega) (by omega) hL dL_law_206 ?_
  refine kB (n := 2) (ci := 5) S c2 gL_law_X5_clock rfl rfl (by decide +kernel) rfl rfl ⟨Nat.le_of_ble_eq_true rfl, Nat.le_of_ble_eq_true rfl⟩ hE (fun _ h => h) hPM hPX hD.comm hS hm1 rfl rfl gm rfl hl.1 [.int r] rfl (Nat.le_of_ble_eq_true rfl) dL_law_207 ⟨Nat.le_of_ble_eq_true rfl, Nat.le_of_ble_eq_true rfl⟩ (fun H locs hPM hPX hD hS => ?_)
  refine lv_icmp_eq (tgt := 687) hx hb dL_law_210 (by decide) (fun _ => ?_) (fun g => absurd rfl g)
  exact kk X1 M1 _ _ hst1 hPX hPM hD.comm hS
set_option maxHeartbeats 4000000 in
set_option maxRecDepth 100000 in
theorem law_block {p : Program} {l : Launch} {e : Env} {s : State} {m : MethodId} {args : Array Value} {below : List Frame} {meth : Method} {c : Code} {Q : State → Prop} {D : va_G} {cI cZ : ClassId} {o q b L i : Nat} {xs : Nat → Int32} {X M : va_W} {H : Heap} {locs : List Loc} {ls : Array Slot} (S : CallFix p m c cL_law 4 s args wsL_law RL) (hE : En D cI cZ s.heap.size s) (hX0 : va_X b L xs s s.heap) (hbl : b < s.heap.size) (hi : i + 6 ≤ L) (hL : L ≤ 3072) (hst : StOK cI cZ o q X M) (hPX : va_P D vwCl X H) (hPM : va_P D vwCl M H) (hD : va_D (fun q : Nat => s.heap.size ≤ q) (X ++ M)) (hS : va_S (fun q : Nat => s.heap.size ≤ q) s.heap H locs) (hl : lv_has ls 4 [(3, .int (iI ((i : Nat) : Int))), (0, .ref b), (1, .ref o), (2, .ref q)]) (kk : ∀ (X M : va_W) (H : Heap) (locs : List Loc), StOK cI cZ o q X M → va_P D vwCl X H → va_P D vwCl M H → va_D (fun q : Nat => s.heap.size ≤ q) (X ++ M) → va_S (fun q : Nat => s.heap.size ≤ q) s.heap H locs → W p l e room_1 s m args below meth c H locs 36 12575 Q (F0 m 687 ls [])) : W p l e room_1 s m args below meth c H locs 36 12575 Q (F0 m 215 ls []) := by
  have hx := S.1
  have hb := S.2.1
  have hbA : ¬ (fun q : Nat => s.heap.size ≤ q) b := Nat.not_le.mpr hbl
  obtain ⟨r, X1, M1, c1, c2, hst1, hx1, hm1⟩ := sim_block l D s.heap.size hst (xs (i + 1)).toInt (iI_rng _)
  obtain ⟨fx, gx⟩ := hst.x0
  obtain ⟨fm, gm⟩ := hst.m0
  refine lv_aload_n hx hb dL_law_215 rfl (lv_at hl 2 rfl) ?_
  refine lv_aload_n hx hb dL_law_216 rfl (lv_at hl 1 rfl) ?_
  refine lv_iload_n hx hb dL_law_217 rfl (lv_at hl 0 rfl) ?_
  refine lv_iconst (v := iI 1) hx hb dL_law_218 rfl ?_
  refine w_iadd S dL_law_219 ?_
  refine w_sld S hX0 hbl hbA hS (i + 1) (by omega) (by omega) hL dL_law_220 ?_
  refine kB (n := 1) (ci := 4) S c1 gL_law_X4_block rfl rfl (by decide +kernel) rfl rfl ⟨Nat.le_of_ble_eq_true rfl, Nat.le_of_ble_eq_true rfl⟩ hE (fun _ h => h) hPX hPM hD hS hx1 rfl rfl gx rfl hl.1 [] rfl (Nat.le_of_ble_eq_true rfl) dL_law_221 ⟨Nat.le_of_ble_eq_true rfl, Nat.le_of_ble_eq_true rfl⟩ (fun H locs hPX hPM hD hS => ?_)
  refine lv_aload_n hx hb dL_law_224 rfl (lv_at hl 3 rfl) ?_
  refine lv_aload_n hx hb dL_law_225 rfl (lv_at hl 1 rfl) ?_
  refine lv_iload_n hx hb dL_law_226 rfl (lv_at hl 0 rfl) ?_
  refine lv_iconst (v := iI 1) hx hb dL_law_227 rfl ?_
  refine w_iadd S dL_law_228 ?_
  refine w_sld S hX0 hbl hbA hS (i + 1) (by omega) (by omega) hL dL_law_229 ?_
  refine kB (n := 1) (ci := 5) S c2 gL_law_X5_block rfl rfl (by decide +kernel) rfl rfl ⟨Nat.le_of_ble_eq_true rfl, Nat.le_of_ble_eq_true rfl⟩ hE (fun _ h => h) hPM hPX hD.comm hS hm1 rfl rfl gm rfl hl.1 [.int r] rfl (Nat.le_of_ble_eq_true rfl) dL_law_230 ⟨Nat.le_of_ble_eq_true rfl, Nat.le_of_ble_eq_true rfl⟩ (fun H locs hPM hPX hD hS => ?_)
  refine lv_icmp_eq (tgt := 687) hx hb dL_law_233 (by decide) (fun _ => ?_) (fun g => absurd rfl g)
  exact kk X1 M1 _ _ hst1 hPX hPM hD.comm hS
set_option maxHeartbeats 4000000 in
set_option maxRecDepth 100000 in
theorem law_pause {p : Program} {l : Launch} {e : Env} {s : State} {m : MethodId} {args : Array Value} {below : List Frame} {meth : Method} {c : Code} {Q : State → Prop} {D : va_G} {cI cZ : ClassId} {o q b L i : Nat} {xs : Nat → Int32} {X M : va_W} {H : Heap} {locs : List Loc} {ls : Array Slot} (S : CallFix p m c cL_law 4 s args wsL_law RL) (hE : En D cI cZ s.heap.size s) (hX0 : va_X b L xs s s.heap) (hbl : b < s.heap.size) (hi : i + 6 ≤ L) (hL : L ≤ 3072) (hst : StOK cI cZ o q X M) (hPX : va_P D vwCl X H) (hPM : va_P D vwCl M H) (hD : va_D (fun q : Nat => s.heap.size ≤ q) (X ++ M)) (hS : va_S (fun q : Nat => s.heap.size ≤ q) s.heap H locs) (hl : lv_has ls 4 [(3, .int (iI ((i : Nat) : Int))), (0, .ref b), (1, .ref o), (2, .ref q)]) (kk : ∀ (X M : va_W) (H : Heap) (locs : List Loc), StOK cI cZ o q X M → va_P D vwCl X H → va_P D vwCl M H → va_D (fun q : Nat => s.heap.size ≤ q) (X ++ M) → va_S (fun q : Nat => s.heap.size ≤ q) s.heap H locs → W p l e room_1 s m args below meth c H locs 36 12575 Q (F0 m 687 ls [])) : W p l e room_1 s m args below meth c H locs 36 12575 Q (F0 m 238 ls []) := by
  have hx := S.1
  have hb := S.2.1
  have hbA : ¬ (fun q : Nat => s.heap.size ≤ q) b := Nat.not_le.mpr hbl
  obtain ⟨r, X1, M1, c1, c2, hst1, hx1, hm1⟩ := sim_pause l D s.heap.size hst (xs (i + 1)).toInt (iI_rng _)
  obtain ⟨fx, gx⟩ := hst.x0
  obtain ⟨fm, gm⟩ := hst.m0
  refine lv_aload_n hx hb dL_law_238 rfl (lv_at hl 2 rfl) ?_
  refine lv_aload_n hx hb dL_law_239 rfl (lv_at hl 1 rfl) ?_
  refine lv_iload_n hx hb dL_law_240 rfl (lv_at hl 0 rfl) ?_
  refine lv_iconst (v := iI 1) hx hb dL_law_241 rfl ?_
  refine w_iadd S dL_law_242 ?_
  refine w_sld S hX0 hbl hbA hS (i + 1) (by omega) (by omega) hL dL_law_243 ?_
  refine kB (n := 1) (ci := 4) S c1 gL_law_X4_pause rfl rfl (by decide +kernel) rfl rfl ⟨Nat.le_of_ble_eq_true rfl, Nat.le_of_ble_eq_true rfl⟩ hE (fun _ h => h) hPX hPM hD hS hx1 rfl rfl gx rfl hl.1 [] rfl (Nat.le_of_ble_eq_true rfl) dL_law_244 ⟨Nat.le_of_ble_eq_true rfl, Nat.le_of_ble_eq_true rfl⟩ (fun H locs hPX hPM hD hS => ?_)
  refine lv_aload_n hx hb dL_law_247 rfl (lv_at hl 3 rfl) ?_
  refine lv_aload_n hx hb dL_law_248 rfl (lv_at hl 1 rfl) ?_
  refine lv_iload_n hx hb dL_law_249 rfl (lv_at hl 0 rfl) ?_
  refine lv_iconst (v := iI 1) hx hb dL_law_250 rfl ?_
  refine w_iadd S dL_law_251 ?_
  refine w_sld S hX0 hbl hbA hS (i + 1) (by omega) (by omega) hL dL_law_252 ?_
  refine kB (n := 1) (ci := 5) S c2 gL_law_X5_pause rfl rfl (by decide +kernel) rfl rfl ⟨Nat.le_of_ble_eq_true rfl, Nat.le_of_ble_eq_true rfl⟩ hE (fun _ h => h) hPM hPX hD.comm hS hm1 rfl rfl gm rfl hl.1 [.int r] rfl (Nat.le_of_ble_eq_true rfl) dL_law_253 ⟨Nat.le_of_ble_eq_true rfl, Nat.le_of_ble_eq_true rfl⟩ (fun H locs hPM hPX hD hS => ?_)
  refine lv_icmp_eq (tgt := 687) hx hb dL_law_256 (by decide) (fun _ => ?_) (fun g => absurd rfl g)
  exact kk X1 M1 _ _ hst1 hPX hPM hD.comm hS
set_option maxHeartbeats 4000000 in
set_option maxRecDepth 100000 in
theorem law_send {p : Program} {l : Launch} {e : Env} {s : State} {m : MethodId} {args : Array Value} {below : List Frame} {meth : Method} {c : Code} {Q : State → Prop} {D : va_G} {cI cZ : ClassId} {o q b L i : Nat} {xs : Nat → Int32} {X M : va_W} {H : Heap} {locs : List Loc} {ls : Array Slot} (S : CallFix p m c cL_law 4 s args wsL_law RL) (hE : En D cI cZ s.heap.size s) (hX0 : va_X b L xs s s.heap) (hbl : b < s.heap.size) (hi : i + 6 ≤ L) (hL : L ≤ 3072) (hst : StOK cI cZ o q X M) (hPX : va_P D vwCl X H) (hPM : va_P D vwCl M H) (hD : va_D (fun q : Nat => s.heap.size ≤ q) (X ++ M)) (hS : va_S (fun q : Nat => s.heap.size ≤ q) s.heap H locs) (hl : lv_has ls 4 [(3, .int (iI ((i : Nat) : Int))), (0, .ref b), (1, .ref o), (2, .ref q)]) (kk : ∀ (X M : va_W) (H : Heap) (locs : List Loc), StOK cI cZ o q X M → va_P D vwCl X H → va_P D vwCl M H → va_D (fun q : Nat => s.heap.size ≤ q) (X ++ M) → va_S (fun q : Nat => s.heap.size ≤ q) s.heap H locs → W p l e room_1 s m args below meth c H locs 36 12575 Q (F0 m 687 ls [])) : W p l e room_1 s m args below meth c H locs 36 12575 Q (F0 m 261 ls []) := by
  have hx := S.1
  have hb := S.2.1
  have hbA : ¬ (fun q : Nat => s.heap.size ≤ q) b := Nat.not_le.mpr hbl
  obtain ⟨r, X1, M1, c1, c2, hst1, hx1, hm1⟩ := sim_send l D s.heap.size hst (xs (i + 1)).toInt (iI_rng _)
  obtain ⟨fx, gx⟩ := hst.x0
  obtain ⟨fm, gm⟩ := hst.m0
  refine lv_aload_n hx hb dL_law_261 rfl (lv_at hl 2 rfl) ?_
  refine lv_aload_n hx hb dL_law_262 rfl (lv_at hl 1 rfl) ?_
  refine lv_iload_n hx hb dL_law_263 rfl (lv_at hl 0 rfl) ?_
  refine lv_iconst (v := iI 1) hx hb dL_law_264 rfl ?_
  refine w_iadd S dL_law_265 ?_
  refine w_sld S hX0 hbl hbA hS (i + 1) (by omega) (by omega) hL dL_law_266 ?_
  refine kB (n := 1) (ci := 4) S c1 gL_law_X4_send rfl rfl (by decide +kernel) rfl rfl ⟨Nat.le_of_ble_eq_true rfl, Nat.le_of_ble_eq_true rfl⟩ hE (fun _ h => h) hPX hPM hD hS hx1 rfl rfl gx rfl hl.1 [] rfl (Nat.le_of_ble_eq_true rfl) dL_law_267 ⟨Nat.le_of_ble_eq_true rfl, Nat.le_of_ble_eq_true rfl⟩ (fun H locs hPX hPM hD hS => ?_)
  refine lv_aload_n hx hb dL_law_270 rfl (lv_at hl 3 rfl) ?_
  refine lv_aload_n hx hb dL_law_271 rfl (lv_at hl 1 rfl) ?_
  refine lv_iload_n hx hb dL_law_272 rfl (lv_at hl 0 rfl) ?_
  refine lv_iconst (v := iI 1) hx hb dL_law_273 rfl ?_
  refine w_iadd S dL_law_274 ?_
  refine w_sld S hX0 hbl hbA hS (i + 1) (by omega) (by omega) hL dL_law_275 ?_
  refine kB (n := 1) (ci := 5) S c2 gL_law_X5_send rfl rfl (by decide +kernel) rfl rfl ⟨Nat.le_of_ble_eq_true rfl, Nat.le_of_ble_eq_true rfl⟩ hE (fun _ h => h) hPM hPX hD.comm hS hm1 rfl rfl gm rfl hl.1 [.int r] rfl (Nat.le_of_ble_eq_true rfl) dL_law_276 ⟨Nat.le_of_ble_eq_true rfl, Nat.le_of_ble_eq_true rfl⟩ (fun H locs hPM hPX hD hS => ?_)
  refine lv_icmp_eq (tgt := 687) hx hb dL_law_279 (by decide) (fun _ => ?_) (fun g => absurd rfl g)
  exact kk X1 M1 _ _ hst1 hPX hPM hD.comm hS
set_option maxHeartbeats 4000000 in
set_option maxRecDepth 100000 in
theorem law_kept {p : Program} {l : Launch} {e : Env} {s : State} {m : MethodId} {args : Array Value} {below : List Frame} {meth : Method} {c : Code} {Q : State → Prop} {D : va_G} {cI cZ : ClassId} {o q b L i : Nat} {xs : Nat → Int32} {X M : va_W} {H : Heap} {locs : List Loc} {ls : Array Slot} (S : CallFix p m c cL_law 4 s args wsL_law RL) (hE : En D cI cZ s.heap.size s) (hX0 : va_X b L xs s s.heap) (hbl : b < s.heap.size) (hi : i + 6 ≤ L) (hL : L ≤ 3072) (hst : StOK cI cZ o q X M) (hPX : va_P D vwCl X H) (hPM : va_P D vwCl M H) (hD : va_D (fun q : Nat => s.heap.size ≤ q) (X ++ M)) (hS : va_S (fun q : Nat => s.heap.size ≤ q) s.heap H locs) (hl : lv_has ls 4 [(3, .int (iI ((i : Nat) : Int))), (0, .ref b), (1, .ref o), (2, .ref q)]) (kk : ∀ (X M : va_W) (H : Heap) (locs : List Loc), StOK cI cZ o q X M → va_P D vwCl X H → va_P D vwCl M H → va_D (fun q : Nat => s.heap.size ≤ q) (X ++ M) → va_S (fun q : Nat => s.heap.size ≤ q) s.heap H locs → W p l e room_1 s m args below meth c H locs 36 12575 Q (F0 m 687 ls [])) : W p l e room_1 s m args below meth c H locs 36 12575 Q (F0 m 284 ls []) := by
  have hx := S.1
  have hb := S.2.1
  have hbA : ¬ (fun q : Nat => s.heap.size ≤ q) b := Nat.not_le.mpr hbl
  obtain ⟨r, X1, M1, c1, c2, hst1, hx1, hm1⟩ := sim_kept l D s.heap.size hst (xs (i + 1)).toInt (xs (i + 2)).toInt (xs (i + 3)).toInt (iI_rng _) (iI_rng _) (iI_rng _)
  obtain ⟨fx, gx⟩ := hst.x0
  obtain ⟨fm, gm⟩ := hst.m0
  refine lv_aload_n hx hb dL_law_284 rfl (lv_at hl 2 rfl) ?_
  refine lv_aload_n hx hb dL_law_285 rfl (lv_at hl 1 rfl) ?_
  refine lv_iload_n hx hb dL_law_286 rfl (lv_at hl 0 rfl) ?_
  refine lv_iconst (v := iI 1) hx hb dL_law_287 rfl ?_
  refine w_iadd S dL_law_288 ?_
  refine w_sld S hX0 hbl hbA hS (i + 1) (by omega) (by omega) hL dL_law_289 ?_
  refine lv_aload_n hx hb dL_law_290 rfl (lv_at hl 1 rfl) ?_
  refine lv_iload_n hx hb dL_law_291 rfl (lv_at hl 0 rfl) ?_
  refine lv_iconst (v := iI 2) hx hb dL_law_292 rfl ?_
  refine w_iadd S dL_law_293 ?_
  refine w_sld S hX0 hbl hbA hS (i + 2) (by omega) (by omega) hL dL_law_294 ?_
  refine lv_aload_n hx hb dL_law_295 rfl (lv_at hl 1 rfl) ?_
  refine lv_iload_n hx hb dL_law_296 rfl (lv_at hl 0 rfl) ?_
  refine lv_iconst (v := iI 3) hx hb dL_law_297 rfl ?_
  refine w_iadd S dL_law_298 ?_
  refine w_sld S hX0 hbl hbA hS (i + 3) (by omega) (by omega) hL dL_law_299 ?_
  refine kB (n := 3) (ci := 4) S c1 gL_law_X4_kept rfl rfl (by decide +kernel) rfl rfl ⟨Nat.le_of_ble_eq_true rfl, Nat.le_of_ble_eq_true rfl⟩ hE (fun _ h => h) hPX hPM hD hS hx1 rfl rfl gx rfl hl.1 [] rfl (Nat.le_of_ble_eq_true rfl) dL_law_300 ⟨Nat.le_of_ble_eq_true rfl, Nat.le_of_ble_eq_true rfl⟩ (fun H locs hPX hPM hD hS => ?_)
  refine lv_aload_n hx hb dL_law_303 rfl (lv_at hl 3 rfl) ?_
  refine lv_aload_n hx hb dL_law_304 rfl (lv_at hl 1 rfl) ?_
  refine lv_iload_n hx hb dL_law_305 rfl (lv_at hl 0 rfl) ?_
  refine lv_iconst (v := iI 1) hx hb dL_law_306 rfl ?_
  refine w_iadd S dL_law_307 ?_
  refine w_sld S hX0 hbl hbA hS (i + 1) (by omega) (by omega) hL dL_law_308 ?_
  refine lv_aload_n hx hb dL_law_309 rfl (lv_at hl 1 rfl) ?_
  refine lv_iload_n hx hb dL_law_310 rfl (lv_at hl 0 rfl) ?_
  refine lv_iconst (v := iI 2) hx hb dL_law_311 rfl ?_
  refine w_iadd S dL_law_312 ?_
  refine w_sld S hX0 hbl hbA hS (i + 2) (by omega) (by omega) hL dL_law_313 ?_
  refine lv_aload_n hx hb dL_law_314 rfl (lv_at hl 1 rfl) ?_
  refine lv_iload_n hx hb dL_law_315 rfl (lv_at hl 0 rfl) ?_
  refine lv_iconst (v := iI 3) hx hb dL_law_316 rfl ?_
  refine w_iadd S dL_law_317 ?_
  refine w_sld S hX0 hbl hbA hS (i + 3) (by omega) (by omega) hL dL_law_318 ?_
  refine kB (n := 3) (ci := 5) S c2 gL_law_X5_kept rfl rfl (by decide +kernel) rfl rfl ⟨Nat.le_of_ble_eq_true rfl, Nat.le_of_ble_eq_true rfl⟩ hE (fun _ h => h) hPM hPX hD.comm hS hm1 rfl rfl gm rfl hl.1 [.int r] rfl (Nat.le_of_ble_eq_true rfl) dL_law_319 ⟨Nat.le_of_ble_eq_true rfl, Nat.le_of_ble_eq_true rfl⟩ (fun H locs hPM hPX hD hS => ?_)
  refine lv_icmp_eq (tgt := 687) hx hb dL_law_322 (by decide) (fun _ => ?_) (fun g => absurd rfl g)
  exact kk X1 M1 _ _ hst1 hPX hPM hD.comm hS
set_option maxHeartbeats 4000000 in
set_option maxRecDepth 100000 in
theorem law_lost {p : Program} {l : Launch} {e : Env} {s : State} {m : MethodId} {args : Array Value} {below : List Frame} {meth : Method} {c : Code} {Q : State → Prop} {D : va_G} {cI cZ : ClassId} {o q b L i : Nat} {xs : Nat → Int32} {X M : va_W} {H : Heap} {locs : List Loc} {ls : Array Slot} (S : CallFix p m c cL_law 4 s args wsL_law RL) (hE : En D cI cZ s.heap.size s) (hX0 : va_X b L xs s s.heap) (hbl : b < s.heap.size) (hi : i + 6 ≤ L) (hL : L ≤ 3072) (hst : StOK cI cZ o q X M) (hPX : va_P D vwCl X H) (hPM : va_P D vwCl M H) (hD : va_D (fun q : Nat => s.heap.size ≤ q) (X ++ M)) (hS : va_S (fun q : Nat => s.heap.size ≤ q) s.heap H locs) (hl : lv_has ls 4 [(3, .int (iI ((i : Nat) : Int))), (0, .ref b), (1, .ref o), (2, .ref q)]) (kk : ∀ (X M : va_W) (H : Heap) (locs : List Loc), StOK cI cZ o q X M → va_P D vwCl X H → va_P D vwCl M H → va_D (fun q : Nat => s.heap.size ≤ q) (X ++ M) → va_S (fun q : Nat => s.heap.size ≤ q) s.heap H locs → W p l e room_1 s m args below meth c H locs 36 12575 Q (F0 m 687 ls [])) : W p l e room_1 s m args below meth c H locs 36 12575 Q (F0 m 327 ls []) := by
  have hx := S.1
  have hb := S.2.1
  have hbA : ¬ (fun q : Nat => s.heap.size ≤ q) b := Nat.not_le.mpr hbl
  obtain ⟨r, X1, M1, c1, c2, hst1, hx1, hm1⟩ := sim_lost l D s.heap.size hst (xs (i + 1)).toInt (xs (i + 2)).toInt (iI_rng _) (iI_rng _)
  obtain ⟨fx, gx⟩ := hst.x0
  obtain ⟨fm, gm⟩ := hst.m0
  refine lv_aload_n hx hb dL_law_327 rfl (lv_at hl 2 rfl) ?_
  refine lv_aload_n hx hb dL_law_328 rfl (lv_at hl 1 rfl) ?_
  refine lv_iload_n hx hb dL_law_329 rfl (lv_at hl 0 rfl) ?_
  refine lv_iconst (v := iI 1) hx hb dL_law_330 rfl ?_
  refine w_iadd S dL_law_331 ?_
  refine w_sld S hX0 hbl hbA hS (i + 1) (by omega) (by omega) hL dL_law_332 ?_
  refine lv_aload_n hx hb dL_law_333 rfl (lv_at hl 1 rfl) ?_
  refine lv_iload_n hx hb dL_law_334 rfl (lv_at hl 0 rfl) ?_
  refine lv_iconst (v := iI 2) hx hb dL_law_335 rfl ?_
  refine w_iadd S dL_law_336 ?_
  refine w_sld S hX0 hbl hbA hS (i + 2) (by omega) (by omega) hL dL_law_337 ?_
  refine kB (n := 2) (ci := 4) S c1 gL_law_X4_lost rfl rfl (by decide +kernel) rfl rfl ⟨Nat.le_of_ble_eq_true rfl, Nat.le_of_ble_eq_true rfl⟩ hE (fun _ h => h) hPX hPM hD hS hx1 rfl rfl gx rfl hl.1 [] rfl (Nat.le_of_ble_eq_true rfl) dL_law_338 ⟨Nat.le_of_ble_eq_true rfl, Nat.le_of_ble_eq_true rfl⟩ (fun H locs hPX hPM hD hS => ?_)
  refine lv_aload_n hx hb dL_law_341 rfl (lv_at hl 3 rfl) ?_
  refine lv_aload_n hx hb dL_law_342 rfl (lv_at hl 1 rfl) ?_
  refine lv_iload_n hx hb dL_law_343 rfl (lv_at hl 0 rfl) ?_
  refine lv_iconst (v := iI 1) hx hb dL_law_344 rfl ?_
  refine w_iadd S dL_law_345 ?_
  refine w_sld S hX0 hbl hbA hS (i + 1) (by omega) (by omega) hL dL_law_346 ?_
  refine lv_aload_n hx hb dL_law_347 rfl (lv_at hl 1 rfl) ?_
  refine lv_iload_n hx hb dL_law_348 rfl (lv_at hl 0 rfl) ?_
  refine lv_iconst (v := iI 2) hx hb dL_law_349 rfl ?_
  refine w_iadd S dL_law_350 ?_
  refine w_sld S hX0 hbl hbA hS (i + 2) (by omega) (by omega) hL dL_law_351 ?_
  refine kB (n := 2) (ci := 5) S c2 gL_law_X5_lost rfl rfl (by decide +kernel) rfl rfl ⟨Nat.le_of_ble_eq_true rfl, Nat.le_of_ble_eq_true rfl⟩ hE (fun _ h => h) hPM hPX hD.comm hS hm1 rfl rfl gm rfl hl.1 [.int r] rfl (Nat.le_of_ble_eq_true rfl) dL_law_352 ⟨Nat.le_of_ble_eq_true rfl, Nat.le_of_ble_eq_true rfl⟩ (fun H locs hPM hPX hD hS => ?_)
  refine lv_icmp_eq (tgt := 687) hx hb dL_law_355 (by decide) (fun _ => ?_) (fun g => absurd rfl g)
  exact kk X1 M1 _ _ hst1 hPX hPM hD.comm hS
set_option maxHeartbeats 4000000 in
set_option maxRecDepth 100000 in
theorem law_took {p : Program} {l : Launch} {e : Env} {s : State} {m : MethodId} {args : Array Value} {below : List Frame} {meth : Method} {c : Code} {Q : State → Prop} {D : va_G} {cI cZ : ClassId} {o q b L i : Nat} {xs : Nat → Int32} {X M : va_W} {H : Heap} {locs : List Loc} {ls : Array Slot} (S : CallFix p m c cL_law 4 s args wsL_law RL) (hE : En D cI cZ s.heap.size s) (hX0 : va_X b L xs s s.heap) (hbl : b < s.heap.size) (hi : i + 6 ≤ L) (hL : L ≤ 3072) (hst : StOK cI cZ o q X M) (hPX : va_P D vwCl X H) (hPM : va_P D vwCl M H) (hD : va_D (fun q : Nat => s.heap.size ≤ q) (X ++ M)) (hS : va_S (fun q : Nat => s.heap.size ≤ q) s.heap H locs) (hl : lv_has ls 4 [(3, .int (iI ((i : Nat) : Int))), (0, .ref b), (1, .ref o), (2, .ref q)]) (kk : ∀ (X M : va_W) (H : Heap) (locs : List Loc), StOK cI cZ o q X M → va_P D vwCl X H → va_P D vwCl M H → va_D (fun q : Nat => s.heap.size ≤ q) (X ++ M) → va_S (fun q : Nat => s.heap.size ≤ q) s.heap H locs → W p l e room_1 s m args below meth c H locs 36 12575 Q (F0 m 687 ls [])) : W p l e room_1 s m args below meth c H locs 36 12575 Q (F0 m 360 ls []) := by
  have hx := S.1
  have hb := S.2.1
  have hbA : ¬ (fun q : Nat => s.heap.size ≤ q) b := Nat.not_le.mpr hbl
  obtain ⟨r, X1, M1, c1, c2, hst1, hx1, hm1⟩ := sim_took l D s.heap.size hst (xs (i + 1)).toInt (xs (i + 2)).toInt (xs (i + 3)).toInt (xs (i + 4)).toInt (iI_rng _) (iI_rng _) (iI_rng _) (iI_rng _)
  obtain ⟨fx, gx⟩ := hst.x0
  obtain ⟨fm, gm⟩ := hst.m0
  refine lv_aload_n hx hb dL_law_360 rfl (lv_at hl 2 rfl) ?_
  refine lv_aload_n hx hb dL_law_361 rfl (lv_at hl 1 rfl) ?_
  refine lv_iload_n hx hb dL_law_362 rfl (lv_at hl 0 rfl) ?_
  refine lv_iconst (v := iI 1) hx hb dL_law_363 rfl ?_
  refine w_iadd S dL_law_364 ?_
  refine w_sld S hX0 hbl hbA hS (i + 1) (by omega) (by omega) hL dL_law_365 ?_
  refine lv_aload_n hx hb dL_law_366 rfl (lv_at hl 1 rfl) ?_
  refine lv_iload_n hx hb dL_law_367 rfl (lv_at hl 0 rfl) ?_
  refine lv_iconst (v := iI 2) hx hb dL_law_368 rfl ?_
  refine w_iadd S dL_law_369 ?_
  refine w_sld S hX0 hbl hbA hS (i + 2) (by omega) (by omega) hL dL_law_370 ?_
  refine lv_aload_n hx hb dL_law_371 rfl (lv_at hl 1 rfl) ?_
  refine lv_iload_n hx hb dL_law_372 rfl (lv_at hl 0 rfl) ?_
  refine lv_iconst (v := iI 3) hx hb dL_law_373 rfl ?_
  refine w_iadd S dL_law_374 ?_
  refine w_sld S hX0 hbl hbA hS (i + 3) (by omega) (by omega) hL dL_law_375 ?_
  refine lv_aload_n hx hb dL_law_376 rfl (lv_at hl 1 rfl) ?_
  refine lv_iload_n hx hb dL_law_377 rfl (lv_at hl 0 rfl) ?_
  refine lv_iconst (v := iI 4) hx hb dL_law_378 rfl ?_
  refine w_iadd S dL_law_379 ?_
  refine w_sld S hX0 hbl hbA hS (i + 4) (by omega) (by omega) hL dL_law_380 ?_
  refine kB (n := 4) (ci := 4) S c1 gL_law_X4_took rfl rfl (by decide +kernel) rfl rfl ⟨Nat.le_of_ble_eq_true rfl, Nat.le_of_ble_eq_true rfl⟩ hE (fun _ h => h) hPX hPM hD hS hx1 rfl rfl gx rfl hl.1 [] rfl (Nat.le_of_ble_eq_true rfl) dL_law_381 ⟨Nat.le_of_ble_eq_true rfl, Nat.le_of_ble_eq_true rfl⟩ (fun H locs hPX hPM hD hS => ?_)
  refine lv_aload_n hx hb dL_law_384 rfl (lv_at hl 3 rfl) ?_
  refine lv_aload_n hx hb dL_law_385 rfl (lv_at hl 1 rfl) ?_
  refine lv_iload_n hx hb dL_law_386 rfl (lv_at hl 0 rfl) ?_
  refine lv_iconst (v := iI 1) hx hb dL_law_387 rfl ?_
  refine w_iadd S dL_law_388 ?_
  refine w_sld S hX0 hbl hbA hS (i + 1) (by omega) (by omega) hL dL_law_389 ?_
  refine lv_aload_n hx hb dL_law_390 rfl (lv_at hl 1 rfl) ?_
  refine lv_iload_n hx hb dL_law_391 rfl (lv_at hl 0 rfl) ?_
  refine lv_iconst (v := iI 2) hx hb dL_law_392 rfl ?_
  refine w_iadd S dL_law_393 ?_
  refine w_sld S hX0 hbl hbA hS (i + 2) (by omega) (by omega) hL dL_law_394 ?_
  refine lv_aload_n hx hb dL_law_395 rfl (lv_at hl 1 rfl) ?_
  refine lv_iload_n hx hb dL_law_396 rfl (lv_at hl 0 rfl) ?_
  refine lv_iconst (v := iI 3) hx hb dL_law_397 rfl ?_
  refine w_iadd S dL_law_398 ?_
  refine w_sld S hX0 hbl hbA hS (i + 3) (by omega) (by omega) hL dL_law_399 ?_
  refine lv_aload_n hx hb dL_law_400 rfl (lv_at hl 1 rfl) ?_
  refine lv_iload_n hx hb dL_law_401 rfl (lv_at hl 0 rfl) ?_
  refine lv_iconst (v := iI 4) hx hb dL_law_402 rfl ?_
  refine w_iadd S dL_law_403 ?_
  refine w_sld S hX0 hbl hbA hS (i + 4) (by omega) (by omega) hL dL_law_404 ?_
  refine kB (n := 4) (ci := 5) S c2 gL_law_X5_took rfl rfl (by decide +kernel) rfl rfl ⟨Nat.le_of_ble_eq_true rfl, Nat.le_of_ble_eq_true rfl⟩ hE (fun _ h => h) hPM hPX hD.comm hS hm1 rfl rfl gm rfl hl.1 [.int r] rfl (Nat.le_of_ble_eq_true rfl) dL_law_405 ⟨Nat.le_of_ble_eq_true rfl, Nat.le_of_ble_eq_true rfl⟩ (fun H locs hPM hPX hD hS => ?_)
  refine lv_icmp_eq (tgt := 687) hx hb dL_law_408 (by decide) (fun _ => ?_) (fun g => absurd rfl g)
  exact kk X1 M1 _ _ hst1 hPX hPM hD.comm hS
set_option maxHeartbeats 4000000 in
set_option maxRecDepth 100000 in
theorem law_first {p : Program} {l : Launch} {e : Env} {s : State} {m : MethodId} {args : Array Value} {below : List Frame} {meth : Method} {c : Code} {Q : State → Prop} {D : va_G} {cI cZ : ClassId} {o q b L i : Nat} {xs : Nat → Int32} {X M : va_W} {H : Heap} {locs : List Loc} {ls : Array Slot} (S : CallFix p m c cL_law 4 s args wsL_law RL) (hE : En D cI cZ s.heap.size s) (hX0 : va_X b L xs s s.heap) (hbl : b < s.heap.size) (hi : i + 6 ≤ L) (hL : L ≤ 3072) (hst : StOK cI cZ o q X M) (hPX : va_P D vwCl X H) (hPM : va_P D vwCl M H) (hD : va_D (fun q : Nat => s.heap.size ≤ q) (X ++ M)) (hS : va_S (fun q : Nat => s.heap.size ≤ q) s.heap H locs) (hl : lv_has ls 4 [(3, .int (iI ((i : Nat) : Int))), (0, .ref b), (1, .ref o), (2, .ref q)]) (kk : ∀ (X M : va_W) (H : Heap) (locs : List Loc), StOK cI cZ o q X M → va_P D vwCl X H → va_P D vwCl M H → va_D (fun q : Nat => s.heap.size ≤ q) (X ++ M) → va_S (fun q : Nat => s.heap.size ≤ q) s.heap H locs → W p l e room_1 s m args below meth c H locs 36 12575 Q (F0 m 687 ls [])) : W p l e room_1 s m args below meth c H locs 36 12575 Q (F0 m 413 ls []) := by
  have hx := S.1
  have hb := S.2.1
  have hbA : ¬ (fun q : Nat => s.heap.size ≤ q) b := Nat.not_le.mpr hbl
  obtain ⟨r, X1, M1, c1, c2, hst1, hx1, hm1⟩ := sim_first l D s.heap.size hst (xs (i + 1)).toInt (xs (i + 2)).toInt (iI_rng _) (iI_rng _)
  obtain ⟨fx, gx⟩ := hst.x0
  obtain ⟨fm, gm⟩ := hst.m0
  refine lv_aload_n hx hb dL_law_413 rfl (lv_at hl 2 rfl) ?_
  refine lv_aload_n hx hb dL_law_414 rfl (lv_at hl 1 rfl) ?_
  refine lv_iload_n hx hb dL_law_415 rfl (lv_at hl 0 rfl) ?_
  refine lv_iconst (v := iI 1) hx hb dL_law_416 rfl ?_
  refine w_iadd S dL_law_417 ?_
  refine w_sld S hX0 hbl hbA hS (i + 1) (by omega) (by omega) hL dL_law_418 ?_
  refine lv_aload_n hx hb dL_law_419 rfl (lv_at hl 1 rfl) ?_
  refine lv_iload_n hx hb dL_law_420 rfl (lv_at hl 0 rfl) ?_
  refine lv_iconst (v := iI 2) hx hb dL_law_421 rfl ?_
  refine w_iadd S dL_law_422 ?_
  refine w_sld S hX0 hbl hbA hS (i + 2) (by omega) (by omega) hL dL_law_423 ?_
  refine kB (n := 2) (ci := 4) S c1 gL_law_X4_first rfl rfl (by decide +kernel) rfl rfl ⟨Nat.le_of_ble_eq_true rfl, Nat.le_of_ble_eq_true rfl⟩ hE (fun _ h => h) hPX hPM hD hS hx1 rfl rfl gx rfl hl.1 [] rfl (Nat.le_of_ble_eq_true rfl) dL_law_424 ⟨Nat.le_of_ble_eq_true rfl, Nat.le_of_ble_eq_true rfl⟩ (fun H locs hPX hPM hD hS => ?_)
  refine lv_aload_n hx hb dL_law_427 rfl (lv_at hl 3 rfl) ?_
  refine lv_aload_n hx hb dL_law_428 rfl (lv_at hl 1 rfl) ?_
  refine lv_iload_n hx hb dL_law_429 rfl (lv_at hl 0 rfl) ?_
  refine lv_iconst (v := iI 1) hx hb dL_law_430 rfl ?_
  refine w_iadd S dL_law_431 ?_
  refine w_sld S hX0 hbl hbA hS (i + 1) (by omega) (by omega) hL dL_law_432 ?_
  refine lv_aload_n hx hb dL_law_433 rfl (lv_at hl 1 rfl) ?_
  refine lv_iload_n hx hb dL_law_434 rfl (lv_at hl 0 rfl) ?_
  refine lv_iconst (v := iI 2) hx hb dL_law_435 rfl ?_
  refine w_iadd S dL_law_436 ?_
  refine w_sld S hX0 hbl hbA hS (i + 2) (by omega) (by omega) hL dL_law_437 ?_
  refine kB (n := 2) (ci := 5) S c2 gL_law_X5_first rfl rfl (by decide +kernel) rfl rfl ⟨Nat.le_of_ble_eq_true rfl, Nat.le_of_ble_eq_true rfl⟩ hE (fun _ h => h) hPM hPX hD.comm hS hm1 rfl rfl gm rfl hl.1 [.int r] rfl (Nat.le_of_ble_eq_true rfl) dL_law_438 ⟨Nat.le_of_ble_eq_true rfl, Nat.le_of_ble_eq_true rfl⟩ (fun H locs hPM hPX hD hS => ?_)
  refine lv_icmp_eq (tgt := 687) hx hb dL_law_441 (by decide) (fun _ => ?_) (fun g => absurd rfl g)
  exact kk X1 M1 _ _ hst1 hPX hPM hD.comm hS
set_option maxHeartbeats 4000000 in
set_option maxRecDepth 100000 in
theorem law_sound {p : Program} {l : Launch} {e : Env} {s : State} {m : MethodId} {args : Array Value} {below : List Frame} {meth : Method} {c : Code} {Q : State → Prop} {D : va_G} {cI cZ : ClassId} {o q b L i : Nat} {xs : Nat → Int32} {X M : va_W} {H : Heap} {locs : List Loc} {ls : Array Slot} (S : CallFix p m c cL_law 4 s args wsL_law RL) (hE : En D cI cZ s.heap.size s) (hX0 : va_X b L xs s s.heap) (hbl : b < s.heap.size) (hi : i + 6 ≤ L) (hL : L ≤ 3072) (hst : StOK cI cZ o q X M) (hPX : va_P D vwCl X H) (hPM : va_P D vwCl M H) (hD : va_D (fun q : Nat => s.heap.size ≤ q) (X ++ M)) (hS : va_S (fun q : Nat => s.heap.size ≤ q) s.heap H locs) (hl : lv_has ls 4 [(3, .int (iI ((i : Nat) : Int))), (0, .ref b), (1, .ref o), (2, .ref q)]) (kk : ∀ (X M : va_W) (H : Heap) (locs : List Loc), StOK cI cZ o q X M → va_P D vwCl X H → va_P D vwCl M H → va_D (fun q : Nat => s.heap.size ≤ q) (X ++ M) → va_S (fun q : Nat => s.heap.size ≤ q) s.heap H locs → W p l e room_1 s m args below meth c H locs 36 12575 Q (F0 m 687 ls [])) : W p l e room_1 s m args below meth c H locs 36 12575 Q (F0 m 446 ls []) := by
  have hx := S.1
  have hb := S.2.1
  have hbA : ¬ (fun q : Nat => s.heap.size ≤ q) b := Nat.not_le.mpr hbl
  obtain ⟨r, X1, M1, c1, c2, hst1, hx1, hm1⟩ := sim_sound l D s.heap.size hst (xs (i + 1)).toInt (xs (i + 2)).toInt (iI_rng _) (iI_rng _)
  obtain ⟨fx, gx⟩ := hst.x0
  obtain ⟨fm, gm⟩ := hst.m0
  refine lv_aload_n hx hb dL_law_446 rfl (lv_at hl 2 rfl) ?_
  refine lv_aload_n hx hb dL_law_447 rfl (lv_at hl 1 rfl) ?_
  refine lv_iload_n hx hb dL_law_448 rfl (lv_at hl 0 rfl) ?_
  refine lv_iconst (v := iI 1) hx hb dL_law_449 rfl ?_
  refine w_iadd S dL_law_450 ?_
  refine w_sld S hX0 hbl hbA hS (i + 1) (by omega) (by omega) hL dL_law_451 ?_
  refine lv_aload_n hx hb dL_law_452 rfl (lv_at hl 1 rfl) ?_
  refine lv_iload_n hx hb dL_law_453 rfl (lv_at hl 0 rfl) ?_
  refine lv_iconst (v := iI 2) hx hb dL_law_454 rfl ?_
  refine w_iadd S dL_law_455 ?_
  refine w_sld S hX0 hbl hbA hS (i + 2) (by omega) (by omega) hL dL_law_456 ?_
  refine kB (n := 2) (ci := 4) S c1 gL_law_X4_sound rfl rfl (by decide +kernel) rfl rfl ⟨Nat.le_of_ble_eq_true rfl, Nat.le_of_ble_eq_true rfl⟩ hE (fun _ h => h) hPX hPM hD hS hx1 rfl rfl gx rfl hl.1 [] rfl (Nat.le_of_ble_eq_true rfl) dL_law_457 ⟨Nat.le_of_ble_eq_true rfl, Nat.le_of_ble_eq_true rfl⟩ (fun H locs hPX hPM hD hS => ?_)
  refine lv_aload_n hx hb dL_law_460 rfl (lv_at hl 3 rfl) ?_
  refine lv_aload_n hx hb dL_law_461 rfl (lv_at hl 1 rfl) ?_
  refine lv_iload_n hx hb dL_law_462 rfl (lv_at hl 0 rfl) ?_
  refine lv_iconst (v := iI 1) hx hb dL_law_463 rfl ?_
  refine w_iadd S dL_law_464 ?_
  refine w_sld S hX0 hbl hbA hS (i + 1) (by omega) (by omega) hL dL_law_465 ?_
  refine lv_aload_n hx hb dL_law_466 rfl (lv_at hl 1 rfl) ?_
  refine lv_iload_n hx hb dL_law_467 rfl (lv_at hl 0 rfl) ?_
  refine lv_iconst (v := iI 2) hx hb dL_law_468 rfl ?_
  refine w_iadd S dL_law_469 ?_
  refine w_sld S hX0 hbl hbA hS (i + 2) (by omega) (by omega) hL dL_law_470 ?_
  refine kB (n := 2) (ci := 5) S c2 gL_law_X5_sound rfl rfl (by decide +kernel) rfl rfl ⟨Nat.le_of_ble_eq_true rfl, Nat.le_of_ble_eq_true rfl⟩ hE (fun _ h => h) hPM hPX hD.comm hS hm1 rfl rfl gm rfl hl.1 [.int r] rfl (Nat.le_of_ble_eq_true rfl) dL_law_471 ⟨Nat.le_of_ble_eq_true rfl, Nat.le_of_ble_eq_true rfl⟩ (fun H locs hPM hPX hD hS => ?_)
  refine lv_icmp_eq (tgt := 687) hx hb dL_law_474 (by decide) (fun _ => ?_) (fun g => absurd rfl g)
  exact kk X1 M1 _ _ hst1 hPX hPM hD.comm hS
set_option maxHeartbeats 4000000 in
set_option maxRecDepth 100000 in
theorem law_apart {p : Program} {l : Launch} {e : Env} {s : State} {m : MethodId} {args : Array Value} {below : List Frame} {meth : Method} {c : Code} {Q : State → Prop} {D : va_G} {cI cZ : ClassId} {o q b L i : Nat} {xs : Nat → Int32} {X M : va_W} {H : Heap} {locs : List Loc} {ls : Array Slot} (S : CallFix p m c cL_law 4 s args wsL_law RL) (hE : En D cI cZ s.heap.size s) (hX0 : va_X b L xs s s.heap) (hbl : b < s.heap.size) (hi : i + 6 ≤ L) (hL : L ≤ 3072) (hst : StOK cI cZ o q X M) (hPX : va_P D vwCl X H) (hPM : va_P D vwCl M H) (hD : va_D (fun q : Nat => s.heap.size ≤ q) (X ++ M)) (hS : va_S (fun q : Nat => s.heap.size ≤ q) s.heap H locs) (hl : lv_has ls 4 [(3, .int (iI ((i : Nat) : Int))), (0, .ref b), (1, .ref o), (2, .ref q)]) (kk : ∀ (X M : va_W) (H : Heap) (locs : List Loc), StOK cI cZ o q X M → va_P D vwCl X H → va_P D vwCl M H → va_D (fun q : Nat => s.heap.size ≤ q) (X ++ M) → va_S (fun q : Nat => s.heap.size ≤ q) s.heap H locs → W p l e room_1 s m args below meth c H locs 36 12575 Q (F0 m 687 ls [])) : W p l e room_1 s m args below meth c H locs 36 12575 Q (F0 m 479 ls []) := by
  have hx := S.1
  have hb := S.2.1
  have hbA : ¬ (fun q : Nat => s.heap.size ≤ q) b := Nat.not_le.mpr hbl
  obtain ⟨r, X1, M1, c1, c2, hst1, hx1, hm1⟩ := sim_apart l D s.heap.size hst (xs (i + 1)).toInt (xs (i + 2)).toInt (xs (i + 3)).toInt (iI_rng _) (iI_rng _) (iI_rng _)
  obtain ⟨fx, gx⟩ := hst.x0
  obtain ⟨fm, gm⟩ := hst.m0
  refine lv_aload_n hx hb dL_law_479 rfl (lv_at hl 2 rfl) ?_
  refine lv_aload_n hx hb dL_law_480 rfl (lv_at hl 1 rfl) ?_
  refine lv_iload_n hx hb dL_law_481 rfl (lv_at hl 0 rfl) ?_
  refine lv_iconst (v := iI 1) hx hb dL_law_482 rfl ?_
  refine w_iadd S dL_law_483 ?_
  refine w_sld S hX0 hbl hbA hS (i + 1) (by omega) (by omega) hL dL_law_484 ?_
  refine lv_aload_n hx hb dL_law_485 rfl (lv_at hl 1 rfl) ?_
  refine lv_iload_n hx hb dL_law_486 rfl (lv_at hl 0 rfl) ?_
  refine lv_iconst (v := iI 2) hx hb dL_law_487 rfl ?_
  refine w_iadd S dL_law_488 ?_
  refine w_sld S hX0 hbl hbA hS (i + 2) (by omega) (by omega) hL dL_law_489 ?_
  refine lv_aload_n hx hb dL_law_490 rfl (lv_at hl 1 rfl) ?_
  refine lv_iload_n hx hb dL_law_491 rfl (lv_at hl 0 rfl) ?_
  refine lv_iconst (v := iI 3) hx hb dL_law_492 rfl ?_
  refine w_iadd S dL_law_493 ?_
  refine w_sld S hX0 hbl hbA hS (i + 3) (by omega) (by omega) hL dL_law_494 ?_
  refine kB (n := 3) (ci := 4) S c1 gL_law_X4_apart rfl rfl (by decide +kernel) rfl rfl ⟨Nat.le_of_ble_eq_true rfl, Nat.le_of_ble_eq_true rfl⟩ hE (fun _ h => h) hPX hPM hD hS hx1 rfl rfl gx rfl hl.1 [] rfl (Nat.le_of_ble_eq_true rfl) dL_law_495 ⟨Nat.le_of_ble_eq_true rfl, Nat.le_of_ble_eq_true rfl⟩ (fun H locs hPX hPM hD hS => ?_)
  refine lv_aload_n hx hb dL_law_498 rfl (lv_at hl 3 rfl) ?_
  refine lv_aload_n hx hb dL_law_499 rfl (lv_at hl 1 rfl) ?_
  refine lv_iload_n hx hb dL_law_500 rfl (lv_at hl 0 rfl) ?_
  refine lv_iconst (v := iI 1) hx hb dL_law_501 rfl ?_
  refine w_iadd S dL_law_502 ?_
  refine w_sld S hX0 hbl hbA hS (i + 1) (by omega) (by omega) hL dL_law_503 ?_
  refine lv_aload_n hx hb dL_law_504 rfl (lv_at hl 1 rfl) ?_
  refine lv_iload_n hx hb dL_law_505 rfl (lv_at hl 0 rfl) ?_
  refine lv_iconst (v := iI 2) hx hb dL_law_506 rfl ?_
  refine w_iadd S dL_law_507 ?_
  refine w_sld S hX0 hbl hbA hS (i + 2) (by omega) (by omega) hL dL_law_508 ?_
  refine lv_aload_n hx hb dL_law_509 rfl (lv_at hl 1 rfl) ?_
  refine lv_iload_n hx hb dL_law_510 rfl (lv_at hl 0 rfl) ?_
  refine lv_iconst (v := iI 3) hx hb dL_law_511 rfl ?_
  refine w_iadd S dL_law_512 ?_
  refine w_sld S hX0 hbl hbA hS (i + 3) (by omega) (by omega) hL dL_law_513 ?_
  refine kB (n := 3) (ci := 5) S c2 gL_law_X5_apart rfl rfl (by decide +kernel) rfl rfl ⟨Nat.le_of_ble_eq_true rfl, Nat.le_of_ble_eq_true rfl⟩ hE (fun _ h => h) hPM hPX hD.comm hS hm1 rfl rfl gm rfl hl.1 [.int r] rfl (Nat.le_of_ble_eq_true rfl) dL_law_514 ⟨Nat.le_of_ble_eq_true rfl, Nat.le_of_ble_eq_true rfl⟩ (fun H locs hPM hPX hD hS => ?_)
  refine lv_icmp_eq (tgt := 687) hx hb dL_law_517 (by decide) (fun _ => ?_) (fun g => absurd rfl g)
  exact kk X1 M1 _ _ hst1 hPX hPM hD.comm hS
set_option maxHeartbeats 4000000 in
set_option maxRecDepth 100000 in
theorem law_tight {p : Program} {l : Launch} {e : Env} {s : State} {m : MethodId} {args : Array Value} {below : List Frame} {meth : Method} {c : Code} {Q : State → Prop} {D : va_G} {cI cZ : ClassId} {o q b L i : Nat} {xs : Nat → Int32} {X M : va_W} {H : Heap} {locs : List Loc} {ls : Array Slot} (S : CallFix p m c cL_law 4 s args wsL_law RL) (hE : En D cI cZ s.heap.size s) (hX0 : va_X b L xs s s.heap) (hbl : b < s.heap.size) (hi : i + 6 ≤ L) (hL : L ≤ 3072) (hst : StOK cI cZ o q X M) (hPX : va_P D vwCl X H) (hPM : va_P D vwCl M H) (hD : va_D (fun q : Nat => s.heap.size ≤ q) (X ++ M)) (hS : va_S (fun q : Nat => s.heap.size ≤ q) s.heap H locs) (hl : lv_has ls 4 [(3, .int (iI ((i : Nat) : Int))), (0, .ref b), (1, .ref o), (2, .ref q)]) (kk : ∀ (X M : va_W) (H : Heap) (locs : List Loc), StOK cI cZ o q X M → va_P D vwCl X H → va_P D vwCl M H → va_D (fun q : Nat => s.heap.size ≤ q) (X ++ M) → va_S (fun q : Nat => s.heap.size ≤ q) s.heap H locs → W p l e room_1 s m args below meth c H locs 36 12575 Q (F0 m 687 ls [])) : W p l e room_1 s m args below meth c H locs 36 12575 Q (F0 m 522 ls []) := by
  have hx := S.1
  have hb := S.2.1
  have hbA : ¬ (fun q : Nat => s.heap.size ≤ q) b := Nat.not_le.mpr hbl
  obtain ⟨r, X1, M1, c1, c2, hst1, hx1, hm1⟩ := sim_tight l D s.heap.size hst (xs (i + 1)).toInt (xs (i + 2)).toInt (iI_rng _) (iI_rng _)
  obtain ⟨fx, gx⟩ := hst.x0
  obtain ⟨fm, gm⟩ := hst.m0
  refine lv_aload_n hx hb dL_law_522 rfl (lv_at hl 2 rfl) ?_
  refine lv_aload_n hx hb dL_law_523 rfl (lv_at hl 1 rfl) ?_
  refine lv_iload_n hx hb dL_law_524 rfl (lv_at hl 0 rfl) ?_
  refine lv_iconst (v := iI 1) hx hb dL_law_525 rfl ?_
  refine w_iadd S dL_law_526 ?_
  refine w_sld S hX0 hbl hbA hS (i + 1) (by omega) (by omega) hL dL_law_527 ?_
  refine lv_aload_n hx hb dL_law_528 rfl (lv_at hl 1 rfl) ?_
  refine lv_iload_n hx hb dL_law_529 rfl (lv_at hl 0 rfl) ?_
  refine lv_iconst (v := iI 2) hx hb dL_law_530 rfl ?_
  refine w_iadd S dL_law_531 ?_
  refine w_sld S hX0 hbl hbA hS (i + 2) (by omega) (by omega) hL dL_law_532 ?_
  refine kB (n := 2) (ci := 4) S c1 gL_law_X4_tight rfl rfl (by decide +kernel) rfl rfl ⟨Nat.le_of_ble_eq_true rfl, Nat.le_of_ble_eq_true rfl⟩ hE (fun _ h => h) hPX hPM hD hS hx1 rfl rfl gx rfl hl.1 [] rfl (Nat.le_of_ble_eq_true rfl) dL_law_533 ⟨Nat.le_of_ble_eq_true rfl, Nat.le_of_ble_eq_true rfl⟩ (fun H locs hPX hPM hD hS => ?_)
  refine lv_aload_n hx hb dL_law_536 rfl (lv_at hl 3 rfl) ?_
  refine lv_aload_n hx hb dL_law_537 rfl (lv_at hl 1 rfl) ?_
  refine lv_iload_n hx hb dL_law_538 rfl (lv_at hl 0 rfl) ?_
  refine lv_iconst (v := iI 1) hx hb dL_law_539 rfl ?_
  refine w_iadd S dL_law_540 ?_
  refine w_sld S hX0 hbl hbA hS (i + 1) (by omega) (by omega) hL dL_law_541 ?_
  refine lv_aload_n hx hb dL_law_542 rfl (lv_at hl 1 rfl) ?_
  refine lv_iload_n hx hb dL_law_543 rfl (lv_at hl 0 rfl) ?_
  refine lv_iconst (v := iI 2) hx hb dL_law_544 rfl ?_
  refine w_iadd S dL_law_545 ?_
  refine w_sld S hX0 hbl hbA hS (i + 2) (by omega) (by omega) hL dL_law_546 ?_
  refine kB (n := 2) (ci := 5) S c2 gL_law_X5_tight rfl rfl (by decide +kernel) rfl rfl ⟨Nat.le_of_ble_eq_true rfl, Nat.le_of_ble_eq_true rfl⟩ hE (fun _ h => h) hPM hPX hD.comm hS hm1 rfl rfl gm rfl hl.1 [.int r] rfl (Nat.le_of_ble_eq_true rfl) dL_law_547 ⟨Nat.le_of_ble_eq_true rfl, Nat.le_of_ble_eq_true rfl⟩ (fun H locs hPM hPX hD hS => ?_)
  refine lv_icmp_eq (tgt := 687) hx hb dL_law_550 (by decide) (fun _ => ?_) (fun g => absurd rfl g)
  exact kk X1 M1 _ _ hst1 hPX hPM hD.comm hS
set_option maxHeartbeats 4000000 in
set_option maxRecDepth 100000 in
theorem law_truth {p : Program} {l : Launch} {e : Env} {s : State} {m : MethodId} {args : Array Value} {below : List Frame} {meth : Method} {c : Code} {Q : State → Prop} {D : va_G} {cI cZ : ClassId} {o q b L i : Nat} {xs : Nat → Int32} {X M : va_W} {H : Heap} {locs : List Loc} {ls : Array Slot} (S : CallFix p m c cL_law 4 s args wsL_law RL) (hE : En D cI cZ s.heap.size s) (hX0 : va_X b L xs s s.heap) (hbl : b < s.heap.size) (hi : i + 6 ≤ L) (hL : L ≤ 3072) (hst : StOK cI cZ o q X M) (hPX : va_P D vwCl X H) (hPM : va_P D vwCl M H) (hD : va_D (fun q : Nat => s.heap.size ≤ q) (X ++ M)) (hS : va_S (fun q : Nat => s.heap.size ≤ q) s.heap H locs) (hl : lv_has ls 4 [(3, .int (iI ((i : Nat) : Int))), (0, .ref b), (1, .ref o), (2, .ref q)]) (kk : ∀ (X M : va_W) (H : Heap) (locs : List Loc), StOK cI cZ o q X M → va_P D vwCl X H → va_P D vwCl M H → va_D (fun q : Nat => s.heap.size ≤ q) (X ++ M) → va_S (fun q : Nat => s.heap.size ≤ q) s.heap H locs → W p l e room_1 s m args below meth c H locs 36 12575 Q (F0 m 687 ls [])) : W p l e room_1 s m args below meth c H locs 36 12575 Q (F0 m 555 ls []) := by
  have hx := S.1
  have hb := S.2.1
  have hbA : ¬ (fun q : Nat => s.heap.size ≤ q) b := Nat.not_le.mpr hbl
  obtain ⟨r, X1, M1, c1, c2, hst1, hx1, hm1⟩ := sim_truth l D s.heap.size hst (xs (i + 1)).toInt (xs (i + 2)).toInt (xs (i + 3)).toInt (xs (i + 4)).toInt (xs (i + 5)).toInt (iI_rng _) (iI_rng _) (iI_rng _) (iI_rng _) (iI_rng _)
  obtain ⟨fx, gx⟩ := hst.x0
  obtain ⟨fm, gm⟩ := hst.m0
  refine lv_aload_n hx hb dL_law_555 rfl (lv_at hl 2 rfl) ?_
  refine lv_aload_n hx hb dL_law_556 rfl (lv_at hl 1 rfl) ?_
  refine lv_iload_n hx hb dL_law_557 rfl (lv_at hl 0 rfl) ?_
  refine lv_iconst (v := iI 1) hx hb dL_law_558 rfl ?_
  refine w_iadd S dL_law_559 ?_
  refine w_sld S hX0 hbl hbA hS (i + 1) (by omega) (by omega) hL dL_law_560 ?_
  refine lv_aload_n hx hb dL_law_561 rfl (lv_at hl 1 rfl) ?_
  refine lv_iload_n hx hb dL_law_562 rfl (lv_at hl 0 rfl) ?_
  refine lv_iconst (v := iI 2) hx hb dL_law_563 rfl ?_
  refine w_iadd S dL_law_564 ?_
  refine w_sld S hX0 hbl hbA hS (i + 2) (by omega) (by omega) hL dL_law_565 ?_
  refine lv_aload_n hx hb dL_law_566 rfl (lv_at hl 1 rfl) ?_
  refine lv_iload_n hx hb dL_law_567 rfl (lv_at hl 0 rfl) ?_
  refine lv_iconst (v := iI 3) hx hb dL_law_568 rfl ?_
  refine w_iadd S dL_law_569 ?_
  refine w_sld S hX0 hbl hbA hS (i + 3) (by omega) (by omega) hL dL_law_570 ?_
  refine lv_aload_n hx hb dL_law_571 rfl (lv_at hl 1 rfl) ?_
  refine lv_iload_n hx hb dL_law_572 rfl (lv_at hl 0 rfl) ?_
  refine lv_iconst (v := iI 4) hx hb dL_law_573 rfl ?_
  refine w_iadd S dL_law_574 ?_
  refine w_sld S hX0 hbl hbA hS (i + 4) (by omega) (by omega) hL dL_law_575 ?_
  refine lv_aload_n hx hb dL_law_576 rfl (lv_at hl 1 rfl) ?_
  refine lv_iload_n hx hb dL_law_577 rfl (lv_at hl 0 rfl) ?_
  refine lv_iconst (v := iI 5) hx hb dL_law_578 rfl ?_
  refine w_iadd S dL_law_579 ?_
  refine w_sld S hX0 hbl hbA hS (i + 5) (by omega) (by omega) hL dL_law_580 ?_
  refine kB (n := 5) (ci := 4) S c1 gL_law_X4_truth rfl rfl (by decide +kernel) rfl rfl ⟨Nat.le_of_ble_eq_true rfl, Nat.le_of_ble_eq_true rfl⟩ hE (fun _ h => h) hPX hPM hD hS hx1 rfl rfl gx rfl hl.1 [] rfl (Nat.le_of_ble_eq_true rfl) dL_law_581 ⟨Nat.le_of_ble_eq_true rfl, Nat.le_of_ble_eq_true rfl⟩ (fun H locs hPX hPM hD hS => ?_)
  refine lv_aload_n hx hb dL_law_584 rfl (lv_at hl 3 rfl) ?_
  refine lv_aload_n hx hb dL_law_585 rfl (lv_at hl 1 rfl) ?_
  refine lv_iload_n hx hb dL_law_586 rfl (lv_at hl 0 rfl) ?_
  refine lv_iconst (v := iI 1) hx hb dL_law_587 rfl ?_
  refine w_iadd S dL_law_588 ?_
  refine w_sld S hX0 hbl hbA hS (i + 1) (by omega) (by omega) hL dL_law_589 ?_
  refine lv_aload_n hx hb dL_law_590 rfl (lv_at hl 1 rfl) ?_
  refine lv_iload_n hx hb dL_law_591 rfl (lv_at hl 0 rfl) ?_
  refine lv_iconst (v := iI 2) hx hb dL_law_592 rfl ?_
  refine w_iadd S dL_law_593 ?_
  refine w_sld S hX0 hbl hbA hS (i + 2) (by omega) (by omega) hL dL_law_594 ?_
  refine lv_aload_n hx hb dL_law_595 rfl (lv_at hl 1 rfl) ?_
  refine lv_iload_n hx hb dL_law_596 rfl (lv_at hl 0 rfl) ?_
  refine lv_iconst (v := iI 3) hx hb dL_law_597 rfl ?_
  refine w_iadd S dL_law_598 ?_
  refine w_sld S hX0 hbl hbA hS (i + 3) (by omega) (by omega) hL dL_law_599 ?_
  refine lv_aload_n hx hb dL_law_600 rfl (lv_at hl 1 rfl) ?_
  refine lv_iload_n hx hb dL_law_601 rfl (lv_at hl 0 rfl) ?_
  refine lv_iconst (v := iI 4) hx hb dL_law_602 rfl ?_
  refine w_iadd S dL_law_603 ?_
  refine w_sld S hX0 hbl hbA hS (i + 4) (by omega) (by omega) hL dL_law_604 ?_
  refine lv_aload_n hx hb dL_law_605 rfl (lv_at hl 1 rfl) ?_
  refine lv_iload_n hx hb dL_law_606 rfl (lv_at hl 0 rfl) ?_
  refine lv_iconst (v := iI 5) hx hb dL_law_607 rfl ?_
  refine w_iadd S dL_law_608 ?_
  refine w_sld S hX0 hbl hbA hS (i + 5) (by omega) (by omega) hL dL_law_609 ?_
  refine kB (n := 5) (ci := 5) S c2 gL_law_X5_truth rfl rfl (by decide +kernel) rfl rfl ⟨Nat.le_of_ble_eq_true rfl, Nat.le_of_ble_eq_true rfl⟩ hE (fun _ h => h) hPM hPX hD.comm hS hm1 rfl rfl gm rfl hl.1 [.int r] rfl (Nat.le_of_ble_eq_true rfl) dL_law_610 ⟨Nat.le_of_ble_eq_true rfl, Nat.le_of_ble_eq_true rfl⟩ (fun H locs hPM hPX hD hS => ?_)
  refine lv_icmp_eq (tgt := 687) hx hb dL_law_613 (by decide) (fun _ => ?_) (fun g => absurd rfl g)
  exact kk X1 M1 _ _ hst1 hPX hPM hD.comm hS
set_option maxHeartbeats 4000000 in
set_option maxRecDepth 100000 in
theorem law_image {p : Program} {l : Launch} {e : Env} {s : State} {m : MethodId} {args : Array Value} {below : List Frame} {meth : Method} {c : Code} {Q : State → Prop} {D : va_G} {cI cZ : ClassId} {o q b L i : Nat} {xs : Nat → Int32} {X M : va_W} {H : Heap} {locs : List Loc} {ls : Array Slot} (S : CallFix p m c cL_law 4 s args wsL_law RL) (hE : En D cI cZ s.heap.size s) (hX0 : va_X b L xs s s.heap) (hbl : b < s.heap.size) (hi : i + 6 ≤ L) (hL : L ≤ 3072) (hst : StOK cI cZ o q X M) (hPX : va_P D vwCl X H) (hPM : va_P D vwCl M H) (hD : va_D (fun q : Nat => s.heap.size ≤ q) (X ++ M)) (hS : va_S (fun q : Nat => s.heap.size ≤ q) s.heap H locs) (hl : lv_has ls 4 [(3, .int (iI ((i : Nat) : Int))), (0, .ref b), (1, .ref o), (2, .ref q)]) (kk : ∀ (X M : va_W) (H : Heap) (locs : List Loc), StOK cI cZ o q X M → va_P D vwCl X H → va_P D vwCl M H → va_D (fun q : Nat => s.heap.size ≤ q) (X ++ M) → va_S (fun q : Nat => s.heap.size ≤ q) s.heap H locs → W p l e room_1 s m args below meth c H locs 36 12575 Q (F0 m 687 ls [])) : W p l e room_1 s m args below meth c H locs 36 12575 Q (F0 m 618 ls []) := by
  have hx := S.1
  have hb := S.2.1
  have hbA : ¬ (fun q : Nat => s.heap.size ≤ q) b := Nat.not_le.mpr hbl
  obtain ⟨r, X1, M1, c1, c2, hst1, hx1, hm1⟩ := sim_image l D s.heap.size hst (xs (i + 1)).toInt (iI_rng _)
  obtain ⟨fx, gx⟩ := hst.x0
  obtain ⟨fm, gm⟩ := hst.m0
  refine lv_aload_n hx hb dL_law_618 rfl (lv_at hl 2 rfl) ?_
  refine lv_aload_n hx hb dL_law_619 rfl (lv_at hl 1 rfl) ?_
  refine lv_iload_n hx hb dL_law_620 rfl (lv_at hl 0 rfl) ?_
  refine lv_iconst (v := iI 1) hx hb dL_law_621 rfl ?_
  refine w_iadd S dL_law_622 ?_
  refine w_sld S hX0 hbl hbA hS (i + 1) (by omega) (by omega) hL dL_law_623 ?_
  refine kB (n := 1) (ci := 4) S c1 gL_law_X4_image rfl rfl (by decide +kernel) rfl rfl ⟨Nat.le_of_ble_eq_true rfl, Nat.le_of_ble_eq_true rfl⟩ hE (fun _ h => h) hPX hPM hD hS hx1 rfl rfl gx rfl hl.1 [] rfl (Nat.le_of_ble_eq_true rfl) dL_law_624 ⟨Nat.le_of_ble_eq_true rfl, Nat.le_of_ble_eq_true rfl⟩ (fun H locs hPX hPM hD hS => ?_)
  refine lv_aload_n hx hb dL_law_627 rfl (lv_at hl 3 rfl) ?_
  refine lv_aload_n hx hb dL_law_628 rfl (lv_at hl 1 rfl) ?_
  refine lv_iload_n hx hb dL_law_629 rfl (lv_at hl 0 rfl) ?_
  refine lv_iconst (v := iI 1) hx hb dL_law_630 rfl ?_
  refine w_iadd S dL_law_631 ?_
  refine w_sld S hX0 hbl hbA hS (i + 1) (by omega) (by omega) hL dL_law_632 ?_
  refine kB (n := 1) (ci := 5) S c2 gL_law_X5_image rfl rfl (by decide +kernel) rfl rfl ⟨Nat.le_of_ble_eq_true rfl, Nat.le_of_ble_eq_true rfl⟩ hE (fun _ h => h) hPM hPX hD.comm hS hm1 rfl rfl gm rfl hl.1 [.int r] rfl (Nat.le_of_ble_eq_true rfl) dL_law_633 ⟨Nat.le_of_ble_eq_true rfl, Nat.le_of_ble_eq_true rfl⟩ (fun H locs hPM hPX hD hS => ?_)
  refine lv_icmp_eq (tgt := 687) hx hb dL_law_636 (by decide) (fun _ => ?_) (fun g => absurd rfl g)
  exact kk X1 M1 _ _ hst1 hPX hPM hD.comm hS
set_option maxHeartbeats 4000000 in
set_option maxRecDepth 100000 in
theorem law_restore {p : Program} {l : Launch} {e : Env} {s : State} {m : MethodId} {args : Array Value} {below : List Frame} {meth : Method} {c : Code} {Q : State → Prop} {D : va_G} {cI cZ : ClassId} {o q b L i : Nat} {xs : Nat → Int32} {X M : va_W} {H : Heap} {locs : List Loc} {ls : Array Slot} (S : CallFix p m c cL_law 4 s args wsL_law RL) (hE : En D cI cZ s.heap.size s) (hX0 : va_X b L xs s s.heap) (hbl : b < s.heap.size) (hi : i + 6 ≤ L) (hL : L ≤ 3072) (hst : StOK cI cZ o q X M) (hPX : va_P D vwCl X H) (hPM : va_P D vwCl M H) (hD : va_D (fun q : Nat => s.heap.size ≤ q) (X ++ M)) (hS : va_S (fun q : Nat => s.heap.size ≤ q) s.heap H locs) (hl : lv_has ls 4 [(3, .int (iI ((i : Nat) : Int))), (0, .ref b), (1, .ref o), (2, .ref q)]) (kk : ∀ (X M : va_W) (H : Heap) (locs : List Loc), StOK cI cZ o q X M → va_P D vwCl X H → va_P D vwCl M H → va_D (fun q : Nat => s.heap.size ≤ q) (X ++ M) → va_S (fun q : Nat => s.heap.size ≤ q) s.heap H locs → W p l e room_1 s m args below meth c H locs 36 12575 Q (F0 m 687 ls [])) : W p l e room_1 s m args below meth c H locs 36 12575 Q (F0 m 641 ls []) := by
  have hx := S.1
  have hb := S.2.1
  have hbA : ¬ (fun q : Nat => s.heap.size ≤ q) b := Nat.not_le.mpr hbl
  obtain ⟨r, X1, M1, c1, c2, hst1, hx1, hm1⟩ := sim_restore l D s.heap.size hst (xs (i + 1)).toInt (iI_rng _)
  obtain ⟨fx, gx⟩ := hst.x0
  obtain ⟨fm, gm⟩ := hst.m0
  refine lv_aload_n hx hb dL_law_641 rfl (lv_at hl 2 rfl) ?_
  refine lv_aload_n hx hb dL_law_642 rfl (lv_at hl 1 rfl) ?_
  refine lv_iload_n hx hb dL_law_643 rfl (lv_at hl 0 rfl) ?_
  refine lv_iconst (v := iI 1) hx hb dL_law_644 rfl ?_
  refine w_iadd S dL_law_645 ?_
  refine w_sld S hX0 hbl hbA hS (i + 1) (by omega) (by omega) hL dL_law_646 ?_
  refine kB (n := 1) (ci := 4) S c1 gL_law_X4_restore rfl rfl (by decide +kernel) rfl rfl ⟨Nat.le_of_ble_eq_true rfl, Nat.le_of_ble_eq_true rfl⟩ hE (fun _ h => h) hPX hPM hD hS hx1 rfl rfl gx rfl hl.1 [] rfl (Nat.le_of_ble_eq_true rfl) dL_law_647 ⟨Nat.le_of_ble_eq_true rfl, Nat.le_of_ble_eq_true rfl⟩ (fun H locs hPX hPM hD hS => ?_)
  refine lv_aload_n hx hb dL_law_650 rfl (lv_at hl 3 rfl) ?_
  refine lv_aload_n hx hb dL_law_651 rfl (lv_at hl 1 rfl) ?_
  refine lv_iload_n hx hb dL_law_652 rfl (lv_at hl 0 rfl) ?_
  refine lv_iconst (v := iI 1) hx hb dL_law_653 rfl ?_
  refine w_iadd S dL_law_654 ?_
  refine w_sld S hX0 hbl hbA hS (i + 1) (by omega) (by omega) hL dL_law_655 ?_
  refine kB (n := 1) (ci := 5) S c2 gL_law_X5_restore rfl rfl (by decide +kernel) rfl rfl ⟨Nat.le_of_ble_eq_true rfl, Nat.le_of_ble_eq_true rfl⟩ hE (fun _ h => h) hPM hPX hD.comm hS hm1 rfl rfl gm rfl hl.1 [.int r] rfl (Nat.le_of_ble_eq_true rfl) dL_law_656 ⟨Nat.le_of_ble_eq_true rfl, Nat.le_of_ble_eq_true rfl⟩ (fun H locs hPM hPX hD hS => ?_)
  refine lv_icmp_eq (tgt := 687) hx hb dL_law_659 (by decide) (fun _ => ?_) (fun g => absurd rfl g)
  exact kk X1 M1 _ _ hst1 hPX hPM hD.comm hS
set_option maxHeartbeats 4000000 in
set_option maxRecDepth 100000 in
theorem law_count {p : Program} {l : Launch} {e : Env} {s : State} {m : MethodId} {args : Array Value} {below : List Frame} {meth : Method} {c : Code} {Q : State → Prop} {D : va_G} {cI cZ : ClassId} {o q b L i : Nat} {xs : Nat → Int32} {X M : va_W} {H : Heap} {locs : List Loc} {ls : Array Slot} (S : CallFix p m c cL_law 4 s args wsL_law RL) (hE : En D cI cZ s.heap.size s) (hX0 : va_X b L xs s s.heap) (hbl : b < s.heap.size) (hi : i + 6 ≤ L) (hL : L ≤ 3072) (hst : StOK cI cZ o q X M) (hPX : va_P D vwCl X H) (hPM : va_P D vwCl M H) (hD : va_D (fun q : Nat => s.heap.size ≤ q) (X ++ M)) (hS : va_S (fun q : Nat => s.heap.size ≤ q) s.heap H locs) (hl : lv_has ls 4 [(3, .int (iI ((i : Nat) : Int))), (0, .ref b), (1, .ref o), (2, .ref q)]) (kk : ∀ (X M : va_W) (H : Heap) (locs : List Loc), StOK cI cZ o q X M → va_P D vwCl X H → va_P D vwCl M H → va_D (fun q : Nat => s.heap.size ≤ q) (X ++ M) → va_S (fun q : Nat => s.heap.size ≤ q) s.heap H locs → W p l e room_1 s m args below meth c H locs 36 12575 Q (F0 m 687 ls [])) : W p l e room_1 s m args below meth c H locs 36 12575 Q (F0 m 664 ls []) := by
  have hx := S.1
  have hb := S.2.1
  have hbA : ¬ (fun q : Nat => s.heap.size ≤ q) b := Nat.not_le.mpr hbl
  obtain ⟨r, X1, M1, c1, c2, hst1, hx1, hm1⟩ := sim_count l D s.heap.size hst (xs (i + 1)).toInt (iI_rng _)
  obtain ⟨fx, gx⟩ := hst.x0
  obtain ⟨fm, gm⟩ := hst.m0
  refine lv_aload_n hx hb dL_law_664 rfl (lv_at hl 2 rfl) ?_
  refine lv_aload_n hx hb dL_law_665 rfl (lv_at hl 1 rfl) ?_
  refine lv_iload_n hx hb dL_law_666 rfl (lv_at hl 0 rfl) ?_
  refine lv_iconst (v := iI 1) hx hb dL_law_667 rfl ?_
  refine w_iadd S dL_law_668 ?_
  refine w_sld S hX0 hbl hbA hS (i + 1) (by omega) (by omega) hL dL_law_669 ?_
  refine kB (n := 1) (ci := 4) S c1 gL_law_X4_count rfl rfl (by decide +kernel) rfl rfl ⟨Nat.le_of_ble_eq_true rfl, Nat.le_of_ble_eq_true rfl⟩ hE (fun _ h => h) hPX hPM hD hS hx1 rfl rfl gx rfl hl.1 [] rfl (Nat.le_of_ble_eq_true rfl) dL_law_670 ⟨Nat.le_of_ble_eq_true rfl, Nat.le_of_ble_eq_true rfl⟩ (fun H locs hPX hPM hD hS => ?_)
  refine lv_aload_n hx hb dL_law_673 rfl (lv_at hl 3 rfl) ?_
  refine lv_aload_n hx hb dL_law_674 rfl (lv_at hl 1 rfl) ?_
  refine lv_iload_n hx hb dL_law_675 rfl (lv_at hl 0 rfl) ?_
  refine lv_iconst (v := iI 1) hx hb dL_law_676 rfl ?_
  refine w_iadd S dL_law_677 ?_
  refine w_sld S hX0 hbl hbA hS (i + 1) (by omega) (by omega) hL dL_law_678 ?_
  refine kB (n := 1) (ci := 5) S c2 gL_law_X5_count rfl rfl (by decide +kernel) rfl rfl ⟨Nat.le_of_ble_eq_true rfl, Nat.le_of_ble_eq_true rfl⟩ hE (fun _ h => h) hPM hPX hD.comm hS hm1 rfl rfl gm rfl hl.1 [.int r] rfl (Nat.le_of_ble_eq_true rfl) dL_law_679 ⟨Nat.le_of_ble_eq_true rfl, Nat.le_of_ble_eq_true rfl⟩ (fun H locs hPM hPX hD hS => ?_)
  refine lv_icmp_eq (tgt := 687) hx hb dL_law_682 (by decide) (fun _ => ?_) (fun g => absurd rfl g)
  exact kk X1 M1 _ _ hst1 hPX hPM hD.comm hS
