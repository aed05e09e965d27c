set_option maxRecDepth 100000 in
set_option maxHeartbeats 4000000 in
theorem wl_make (l : Launch) (D : va_G) (cy : Nat → ClassId) (N0 : Nat) (h : qH) (x y ou : Nat) (fo : Nat → Int64) (gr : Int32) (n : Nat) (S : Nat → qSlot) (W : qWo) (p0 : Int32) (p1 : Int32) (j : JZ cy h x y ou fo gr (n + 1) ((xs_make S p0 p1).2) (W) S W) (hp : PI gr n S W) (hn : n < 64) : qC l D cy N0 yX8_make cX8_make 4 none 1 22 0 0 [.ref y, .int p0, .int p1] h (fun v h' => v = none ∧ ∃ W' : qWo, JZ cy h' x y ou fo gr (n + 1) ((xs_make S p0 p1).2) W' ((xs_make S p0 p1).2) W' ∧ PI gr (n + 1) ((xs_make S p0 p1).2) W' ∧ W'.1.2.2.2.2.2.2.2.1 = (xs_make S p0 p1).1 ∧ W'.2 = (W).2) (fun E h' => False) := by
  obtain ⟨mk, sl, bl, kr, vr, Ed, fs, bd, br, eb, Im, Xb, g, A, ra, rk, rv, pa, ad, hz, hQ, hA, hou, hmk, hEd, hrn, hdj, hno⟩ := j
  obtain ⟨K, dp, hpi⟩ := id hp
  have hp9 : PI gr (n + 1) ((xs_make S p0 p1).2) (W) := hp.make
  have hqs : QS W (W) := QS.rf
  obtain ⟨⟨ms, mb, mw, od, pt, ro, gr9, cd, ca, mv, ct, fau, rn⟩, a, k⟩ := W
  obtain rfl : gr9 = gr := hpi.2.2.2.2.2.2.1
  obtain ⟨fi, re, rc, rs, so, ot, cn, la, hY⟩ := hQ.1.yo2
  refine (w_make l D cy N0 h y ms mb mw od pt fi re rc rs so ot cn la ro gr9 cd ca mv ct fau (nI a.1) (nI k.1) rn ra rk rv S p0 p1 hY pa A a k (S 999).2.2.1 (xRs S) ad hQ).mono (fun v h' hq => ?_) (fun _ _ z => z)
  obtain ⟨rfl, hQ9, hf9⟩ := hq
  obtain ⟨j9, p9⟩ := JZ.fin hz hQ hA hou hmk hEd hrn hdj hno hp9 (fun i9 hi9 => xt_make i9 hi9) rfl hqs hQ9 hf9 rfl rfl rfl ⟨rfl, rfl, rfl, rfl, rfl, rfl⟩ rfl
  exact ⟨rfl, _, j9, p9, rfl, rfl⟩
set_option maxRecDepth 100000 in
set_option maxHeartbeats 4000000 in
theorem wl_copy (l : Launch) (D : va_G) (cy : Nat → ClassId) (N0 : Nat) (h : qH) (x y ou : Nat) (fo : Nat → Int64) (gr : Int32) (n : Nat) (S : Nat → qSlot) (W : qWo) (p0 : Int32) (p1 : Int32) (j : JZ cy h x y ou fo gr (n + 1) ((xs_copy S p0 p1).2) (W) S W) (hp : PI gr n S W) (hn : n < 64) : qC l D cy N0 yX8_copy_ cX8_copy_ 3 none 1 22 0 0 [.ref y, .int p0, .int p1] h (fun v h' => v = none ∧ ∃ W' : qWo, JZ cy h' x y ou fo gr (n + 1) ((xs_copy S p0 p1).2) W' ((xs_copy S p0 p1).2) W' ∧ PI gr (n + 1) ((xs_copy S p0 p1).2) W' ∧ W'.1.2.2.2.2.2.2.2.1 = (xs_copy S p0 p1).1 ∧ W'.2 = (W).2) (fun E h' => False) := by
  obtain ⟨mk, sl, bl, kr, vr, Ed, fs, bd, br, eb, Im, Xb, g, A, ra, rk, rv, pa, ad, hz, hQ, hA, hou, hmk, hEd, hrn, hdj, hno⟩ := j
  obtain ⟨K, dp, hpi⟩ := id hp
  have hp9 : PI gr (n + 1) ((xs_copy S p0 p1).2) (W) := hp.copy
  have hqs : QS W (W) := QS.rf
  obtain ⟨⟨ms, mb, mw, od, pt, ro, gr9, cd, ca, mv, ct, fau, rn⟩, a, k⟩ := W
  obtain rfl : gr9 = gr := hpi.2.2.2.2.2.2.1
  obtain ⟨fi, re, rc, rs, so, ot, cn, la, hY⟩ := hQ.1.yo2
  refine (w_copy_ l D cy N0 h y ms mb mw od pt fi re rc rs so ot cn la ro gr9 cd ca mv ct fau (nI a.1) (nI k.1) rn ra rk rv S p0 p1 hY pa A a k (S 999).2.2.1 (xRs S) ad hQ).mono (fun v h' hq => ?_) (fun _ _ z => z)
  obtain ⟨rfl, hQ9, hf9⟩ := hq
  obtain ⟨j9, p9⟩ := JZ.fin hz hQ hA hou hmk hEd hrn hdj hno hp9 (fun i9 hi9 => xt_copy i9 hi9) rfl hqs hQ9 hf9 rfl rfl rfl ⟨rfl, rfl, rfl, rfl, rfl, rfl⟩ rfl
  exact ⟨rfl, _, j9, p9, rfl, rfl⟩
set_option maxRecDepth 100000 in
set_option maxHeartbeats 4000000 in
theorem wl_size (l : Launch) (D : va_G) (cy : Nat → ClassId) (N0 : Nat) (h : qH) (x y ou : Nat) (fo : Nat → Int64) (gr : Int32) (n : Nat) (S : Nat → qSlot) (W : qWo) (p0 : Int32) (j : JZ cy h x y ou fo gr (n + 1) (S) (W) S W) (hp : PI gr n S W) (hn : n < 64) : qC l D cy N0 yX8_size cX8_size 2 (some .int) 1 22 0 0 [.ref y, .int p0] h (fun v h' => v = some (.int ((xs_size S p0).2)) ∧ ∃ W' : qWo, JZ cy h' x y ou fo gr (n + 1) (S) W' (S) W' ∧ PI gr (n + 1) (S) W' ∧ W'.1.2.2.2.2.2.2.2.1 = (xs_size S p0).1 ∧ W'.2 = (W).2) (fun E h' => False) := by
  obtain ⟨mk, sl, bl, kr, vr, Ed, fs, bd, br, eb, Im, Xb, g, A, ra, rk, rv, pa, ad, hz, hQ, hA, hou, hmk, hEd, hrn, hdj, hno⟩ := j
  obtain ⟨K, dp, hpi⟩ := id hp
  have hp9 : PI gr (n + 1) (S) (W) := hp.up
  have hqs : QS W (W) := QS.rf
  obtain ⟨⟨ms, mb, mw, od, pt, ro, gr9, cd, ca, mv, ct, fau, rn⟩, a, k⟩ := W
  obtain rfl : gr9 = gr := hpi.2.2.2.2.2.2.1
  obtain ⟨fi, re, rc, rs, so, ot, cn, la, hY⟩ := hQ.1.yo2
  refine (w_size l D cy N0 h y ms mb mw od pt fi re rc rs so ot cn la ro gr9 cd ca mv ct fau (nI a.1) (nI k.1) rn ra rk rv S p0 hY pa A a k (S 999).2.2.1 (xRs S) ad hQ).mono (fun v h' hq => ?_) (fun _ _ z => z)
  obtain ⟨rfl, hQ9, hf9⟩ := hq
  obtain ⟨j9, p9⟩ := JZ.fin hz hQ hA hou hmk hEd hrn hdj hno hp9 (fun _ _ => rfl) rfl hqs hQ9 hf9 rfl rfl rfl ⟨rfl, rfl, rfl, rfl, rfl, rfl⟩ rfl
  exact ⟨rfl, _, j9, p9, rfl, rfl⟩
set_option maxRecDepth 100000 in
set_option maxHeartbeats 4000000 in
theorem wl_kind (l : Launch) (D : va_G) (cy : Nat → ClassId) (N0 : Nat) (h : qH) (x y ou : Nat) (fo : Nat → Int64) (gr : Int32) (n : Nat) (S : Nat → qSlot) (W : qWo) (p0 : Int32) (j : JZ cy h x y ou fo gr (n + 1) (S) (W) S W) (hp : PI gr n S W) (hn : n < 64) : qC l D cy N0 yX8_kind cX8_kind 2 (some .int) 1 22 0 0 [.ref y, .int p0] h (fun v h' => v = some (.int ((xs_kind S p0).2)) ∧ ∃ W' : qWo, JZ cy h' x y ou fo gr (n + 1) (S) W' (S) W' ∧ PI gr (n + 1) (S) W' ∧ W'.1.2.2.2.2.2.2.2.1 = (xs_kind S p0).1 ∧ W'.2 = (W).2) (fun E h' => False) := by
  obtain ⟨mk, sl, bl, kr, vr, Ed, fs, bd, br, eb, Im, Xb, g, A, ra, rk, rv, pa, ad, hz, hQ, hA, hou, hmk, hEd, hrn, hdj, hno⟩ := j
  obtain ⟨K, dp, hpi⟩ := id hp
  have hp9 : PI gr (n + 1) (S) (W) := hp.up
  have hqs : QS W (W) := QS.rf
  obtain ⟨⟨ms, mb, mw, od, pt, ro, gr9, cd, ca, mv, ct, fau, rn⟩, a, k⟩ := W
  obtain rfl : gr9 = gr := hpi.2.2.2.2.2.2.1
  obtain ⟨fi, re, rc, rs, so, ot, cn, la, hY⟩ := hQ.1.yo2
  refine (w_kind l D cy N0 h y ms mb mw od pt fi re rc rs so ot cn la ro gr9 cd ca mv ct fau (nI a.1) (nI k.1) rn ra rk rv S p0 hY pa A a k (S 999).2.2.1 (xRs S) ad hQ).mono (fun v h' hq => ?_) (fun _ _ z => z)
  obtain ⟨rfl, hQ9, hf9⟩ := hq
  obtain ⟨j9, p9⟩ := JZ.fin hz hQ hA hou hmk hEd hrn hdj hno hp9 (fun _ _ => rfl) rfl hqs hQ9 hf9 rfl rfl rfl ⟨rfl, rfl, rfl, rfl, rfl, rfl⟩ rfl
  exact ⟨rfl, _, j9, p9, rfl, rfl⟩
set_option maxRecDepth 100000 in
set_option maxHeartbeats 4000000 in
theorem wl_add (l : Launch) (D : va_G) (cy : Nat → ClassId) (N0 : Nat) (h : qH) (x y ou : Nat) (fo : Nat → Int64) (gr : Int32) (n : Nat) (S : Nat → qSlot) (W : qWo) (p0 : Int32) (p1 : Int32) (p2 : Int64) (j : JZ cy h x y ou fo gr (n + 1) ((xs_add gr S p0 p1 p2).2.1) (W) S W) (hp : PI gr n S W) (hn : n < 64) : qC l D cy N0 yX8_add cX8_add 5 (some .int) 2 60 0 0 [.ref y, .int p0, .int p1, .long p2] h (fun v h' => v = some (.int ((xs_add gr S p0 p1 p2).2.2)) ∧ ∃ W' : qWo, JZ cy h' x y ou fo gr (n + 1) ((xs_add gr S p0 p1 p2).2.1) W' ((xs_add gr S p0 p1 p2).2.1) W' ∧ PI gr (n + 1) ((xs_add gr S p0 p1 p2).2.1) W' ∧ W'.1.2.2.2.2.2.2.2.1 = (xs_add gr S p0 p1 p2).1 ∧ W'.2 = (W).2) (fun E h' => False) := by
  obtain ⟨mk, sl, bl, kr, vr, Ed, fs, bd, br, eb, Im, Xb, g, A, ra, rk, rv, pa, ad, hz, hQ, hA, hou, hmk, hEd, hrn, hdj, hno⟩ := j
  obtain ⟨K, dp, hpi⟩ := id hp
  have hp9 : PI gr (n + 1) ((xs_add gr S p0 p1 p2).2.1) (W) := hp.add
  have hqs : QS W (W) := QS.rf
  obtain ⟨⟨ms, mb, mw, od, pt, ro, gr9, cd, ca, mv, ct, fau, rn⟩, a, k⟩ := W
  obtain rfl : gr9 = gr := hpi.2.2.2.2.2.2.1
  obtain ⟨fi, re, rc, rs, so, ot, cn, la, hY⟩ := hQ.1.yo2
  refine (w_add l D cy N0 h y ms mb mw od pt fi re rc rs so ot cn la ro gr9 cd ca mv ct fau (nI a.1) (nI k.1) rn ra rk rv S p0 p1 p2 hY hpi.hI pa A a k (S 999).2.2.1 (xRs S) ad hQ).mono (fun v h' hq => ?_) (fun _ _ z => z)
  obtain ⟨rfl, hQ9, hf9⟩ := hq
  obtain ⟨j9, p9⟩ := JZ.fin hz hQ hA hou hmk hEd hrn hdj hno hp9 (fun i9 hi9 => xt_add i9 hi9) rfl hqs hQ9 hf9 rfl rfl rfl ⟨rfl, rfl, rfl, rfl, rfl, rfl⟩ rfl
  exact ⟨rfl, _, j9, p9, rfl, rfl⟩
set_option maxRecDepth 100000 in
set_option maxHeartbeats 4000000 in
theorem wl_push (l : Launch) (D : va_G) (cy : Nat → ClassId) (N0 : Nat) (h : qH) (x y ou : Nat) (fo : Nat → Int64) (gr : Int32) (n : Nat) (S : Nat → qSlot) (W : qWo) (p0 : Int32) (p1 : Int32) (p2 : Int64) (j : JZ cy h x y ou fo gr (n + 1) ((xs_push S W p0 p1 p2).2.1) ((xs_push S W p0 p1 p2).2.2) S W) (hp : PI gr n S W) (hn : n < 64) : qC l D cy N0 yX8_push cX8_push 5 none 4 160 (qP1 (xs_push S W p0 p1 p2).2.2.2.1 - qP1 W.2.1) (qP2 (xs_push S W p0 p1 p2).2.2.2.1 - qP2 W.2.1) [.ref y, .int p0, .int p1, .long p2] h (fun v h' => v = none ∧ ∃ W' : qWo, JZ cy h' x y ou fo gr (n + 1) ((xs_push S W p0 p1 p2).2.1) W' ((xs_push S W p0 p1 p2).2.1) W' ∧ PI gr (n + 1) ((xs_push S W p0 p1 p2).2.1) W' ∧ W'.1.2.2.2.2.2.2.2.1 = (xs_push S W p0 p1 p2).1 ∧ W'.2 = ((xs_push S W p0 p1 p2).2.2).2) (fun E h' => False) := by
  obtain ⟨mk, sl, bl, kr, vr, Ed, fs, bd, br, eb, Im, Xb, g, A, ra, rk, rv, pa, ad, hz, hQ, hA, hou, hmk, hEd, hrn, hdj, hno⟩ := j
  obtain ⟨K, dp, hpi⟩ := id hp
  have hp9 : PI gr (n + 1) ((xs_push S W p0 p1 p2).2.1) ((xs_push S W p0 p1 p2).2.2) := hp.push
  have hqs : QS W ((xs_push S W p0 p1 p2).2.2) := qo_push
  obtain ⟨⟨ms, mb, mw, od, pt, ro, gr9, cd, ca, mv, ct, fau, rn⟩, a, k⟩ := W
  obtain rfl : gr9 = gr := hpi.2.2.2.2.2.2.1
  obtain ⟨fi, re, rc, rs, so, ot, cn, la, hY⟩ := hQ.1.yo2
  refine (w_push l D cy N0 h y ms mb mw od pt fi re rc rs so ot cn la ro gr9 cd ca mv ct fau (nI a.1) (nI k.1) rn ra rk rv S pa A a k (xRs S) ad (S 999).2.2.1 (n + 2) 1 101 100 dp (xF S) p0 p1 p2 _ hY hQ hpi.hI hpi.hV (by omega) (w_forceAll l D cy N0 y (n + 2) (S 999).2.2.1 (xRs S) ad (by omega) hpi.2.2.2.2.1 101) hpi.G (by decide) hpi.hSt rfl).mono (fun v h' hq => ?_) (fun _ _ z => z)
  obtain ⟨rfl, A', hQ9, hf9⟩ := hq
  obtain ⟨j9, p9⟩ := JZ.fin hz hQ hA hou hmk hEd hrn hdj hno hp9 (fun i9 hi9 => xt_push i9 hi9) rfl hqs hQ9 hf9 rfl rfl rfl ⟨rfl, rfl, rfl, rfl, rfl, rfl⟩ rfl
  exact ⟨rfl, _, j9, p9, rfl, rfl⟩
set_option maxRecDepth 100000 in
set_option maxHeartbeats 4000000 in
theorem wl_set (l : Launch) (D : va_G) (cy : Nat → ClassId) (N0 : Nat) (h : qH) (x y ou : Nat) (fo : Nat → Int64) (gr : Int32) (n : Nat) (S : Nat → qSlot) (W : qWo) (p0 : Int32) (p1 : Int32) (p2 : Int32) (p3 : Int64) (j : JZ cy h x y ou fo gr (n + 1) ((xs_set S p0 p1 p2 p3).2.1) (W) S W) (hp : PI gr n S W) (hn : n < 64) : qC l D cy N0 yX8_set cX8_set 8 (some .long) 2 60 0 0 [.ref y, .int p0, .int p1, .int p2, .long p3] h (fun v h' => v = some (.long ((xs_set S p0 p1 p2 p3).2.2)) ∧ ∃ W' : qWo, JZ cy h' x y ou fo gr (n + 1) ((xs_set S p0 p1 p2 p3).2.1) W' ((xs_set S p0 p1 p2 p3).2.1) W' ∧ PI gr (n + 1) ((xs_set S p0 p1 p2 p3).2.1) W' ∧ W'.1.2.2.2.2.2.2.2.1 = (xs_set S p0 p1 p2 p3).1 ∧ W'.2 = (W).2) (fun E h' => False) := by
  obtain ⟨mk, sl, bl, kr, vr, Ed, fs, bd, br, eb, Im, Xb, g, A, ra, rk, rv, pa, ad, hz, hQ, hA, hou, hmk, hEd, hrn, hdj, hno⟩ := j
  obtain ⟨K, dp, hpi⟩ := id hp
  have hp9 : PI gr (n + 1) ((xs_set S p0 p1 p2 p3).2.1) (W) := hp.set
  have hqs : QS W (W) := QS.rf
  obtain ⟨⟨ms, mb, mw, od, pt, ro, gr9, cd, ca, mv, ct, fau, rn⟩, a, k⟩ := W
  obtain rfl : gr9 = gr := hpi.2.2.2.2.2.2.1
  obtain ⟨fi, re, rc, rs, so, ot, cn, la, hY⟩ := hQ.1.yo2
  refine (w_set l D cy N0 h y ms mb mw od pt fi re rc rs so ot cn la ro gr9 cd ca mv ct fau (nI a.1) (nI k.1) rn ra rk rv S p0 p1 p2 p3 hY hpi.hI pa A a k (S 999).2.2.1 (xRs S) ad hQ).mono (fun v h' hq => ?_) (fun _ _ z => z)
  obtain ⟨rfl, hQ9, hf9⟩ := hq
  obtain ⟨j9, p9⟩ := JZ.fin hz hQ hA hou hmk hEd hrn hdj hno hp9 (fun i9 hi9 => xt_set i9 hi9) rfl hqs hQ9 hf9 rfl rfl rfl ⟨rfl, rfl, rfl, rfl, rfl, rfl⟩ rfl
  exact ⟨rfl, _, j9, p9, rfl, rfl⟩
set_option maxRecDepth 100000 in
set_option maxHeartbeats 4000000 in
theorem wl_at (l : Launch) (D : va_G) (cy : Nat → ClassId) (N0 : Nat) (h : qH) (x y ou : Nat) (fo : Nat → Int64) (gr : Int32) (n : Nat) (S : Nat → qSlot) (W : qWo) (p0 : Int32) (p1 : Int32) (j : JZ cy h x y ou fo gr (n + 1) (S) ((xs_at (xF S) S W p0 p1).2.2) S W) (hp : PI gr n S W) (hn : n < 64) : qC l D cy N0 yX8_at cX8_at 4 (some .long) (4 * 101 + 20) (200 * 101 + 700) (qP1 (xs_at (xF S) S W p0 p1).2.2.2.1 - qP1 W.2.1) (qP2 (xs_at (xF S) S W p0 p1).2.2.2.1 - qP2 W.2.1) [.ref y, .int p0, .int p1] h (fun v h' => v = some (.long ((xs_at (xF S) S W p0 p1).2.1)) ∧ ∃ W' : qWo, JZ cy h' x y ou fo gr (n + 1) (S) W' (S) W' ∧ PI gr (n + 1) (S) W' ∧ W'.1.2.2.2.2.2.2.2.1 = (xs_at (xF S) S W p0 p1).1 ∧ W'.2 = ((xs_at (xF S) S W p0 p1).2.2).2) (fun E h' => False) := by
  obtain ⟨mk, sl, bl, kr, vr, Ed, fs, bd, br, eb, Im, Xb, g, A, ra, rk, rv, pa, ad, hz, hQ, hA, hou, hmk, hEd, hrn, hdj, hno⟩ := j
  obtain ⟨K, dp, hpi⟩ := id hp
  have hp9 : PI gr (n + 1) (S) ((xs_at (xF S) S W p0 p1).2.2) := hp.at
  have hqs : QS W ((xs_at (xF S) S W p0 p1).2.2) := qo_at hp
  obtain ⟨⟨ms, mb, mw, od, pt, ro, gr9, cd, ca, mv, ct, fau, rn⟩, a, k⟩ := W
  obtain rfl : gr9 = gr := hpi.2.2.2.2.2.2.1
  obtain ⟨fi, re, rc, rs, so, ot, cn, la, hY⟩ := hQ.1.yo2
  refine (w_at l D cy N0 h y ms mb mw od pt fi re rc rs so ot cn la ro gr9 cd ca mv ct fau (nI a.1) (nI k.1) rn ra rk rv S pa A a k (xRs S) ad (S 999).2.2.1 (n + 2) 1 101 100 dp (xF S) p0 p1 _ hY hQ hpi.hI hpi.hV (by omega) (w_forceAll l D cy N0 y (n + 2) (S 999).2.2.1 (xRs S) ad (by omega) hpi.2.2.2.2.1 101) hpi.G (by decide) hpi.hSt rfl).mono (fun v h' hq => ?_) (fun _ _ z => z)
  obtain ⟨rfl, A', ct', hQ9, hf9⟩ := hq
  obtain ⟨j9, p9⟩ := JZ.fin hz hQ hA hou hmk hEd hrn hdj hno hp9 (fun _ _ => rfl) rfl hqs hQ9 hf9 rfl rfl rfl ⟨rfl, rfl, rfl, rfl, rfl, rfl⟩ rfl
  exact ⟨rfl, _, j9, p9, rfl, rfl⟩
set_option maxRecDepth 100000 in
set_option maxHeartbeats 4000000 in
theorem wl_drop (l : Launch) (D : va_G) (cy : Nat → ClassId) (N0 : Nat) (h : qH) (x y ou : Nat) (fo : Nat → Int64) (gr : Int32) (n : Nat) (S : Nat → qSlot) (W : qWo) (p0 : Int32) (p1 : Int32) (p2 : Int32) (p3 : Int32) (j : JZ cy h x y ou fo gr (n + 1) ((xs_drop S p0 p1 p2 p3).2.1) (W) S W) (hp : PI gr n S W) (hn : n < 64) : qC l D cy N0 yX8_drop cX8_drop 6 (some .int) 2 60 0 0 [.ref y, .int p0, .int p1, .int p2, .int p3] h (fun v h' => v = some (.int ((xs_drop S p0 p1 p2 p3).2.2)) ∧ ∃ W' : qWo, JZ cy h' x y ou fo gr (n + 1) ((xs_drop S p0 p1 p2 p3).2.1) W' ((xs_drop S p0 p1 p2 p3).2.1) W' ∧ PI gr (n + 1) ((xs_drop S p0 p1 p2 p3).2.1) W' ∧ W'.1.2.2.2.2.2.2.2.1 = (xs_drop S p0 p1 p2 p3).1 ∧ W'.2 = (W).2) (fun E h' => False) := by
  obtain ⟨mk, sl, bl, kr, vr, Ed, fs, bd, br, eb, Im, Xb, g, A, ra, rk, rv, pa, ad, hz, hQ, hA, hou, hmk, hEd, hrn, hdj, hno⟩ := j
  obtain ⟨K, dp, hpi⟩ := id hp
  have hp9 : PI gr (n + 1) ((xs_drop S p0 p1 p2 p3).2.1) (W) := hp.drop
  have hqs : QS W (W) := QS.rf
  obtain ⟨⟨ms, mb, mw, od, pt, ro, gr9, cd, ca, mv, ct, fau, rn⟩, a, k⟩ := W
  obtain rfl : gr9 = gr := hpi.2.2.2.2.2.2.1
  obtain ⟨fi, re, rc, rs, so, ot, cn, la, hY⟩ := hQ.1.yo2
  refine (w_drop l D cy N0 h y ms mb mw od pt fi re rc rs so ot cn la ro gr9 cd ca mv ct fau (nI a.1) (nI k.1) rn ra rk rv S p0 p1 p2 p3 hY hpi.hI pa A a k (S 999).2.2.1 (xRs S) ad hQ).mono (fun v h' hq => ?_) (fun _ _ z => z)
  obtain ⟨rfl, hQ9, hf9⟩ := hq
  obtain ⟨j9, p9⟩ := JZ.fin hz hQ hA hou hmk hEd hrn hdj hno hp9 (fun i9 hi9 => xt_drop i9 hi9) rfl hqs hQ9 hf9 rfl rfl rfl ⟨rfl, rfl, rfl, rfl, rfl, rfl⟩ rfl
  exact ⟨rfl, _, j9, p9, rfl, rfl⟩
set_option maxRecDepth 100000 in
set_option maxHeartbeats 4000000 in
theorem wl_pop (l : Launch) (D : va_G) (cy : Nat → ClassId) (N0 : Nat) (h : qH) (x y ou : Nat) (fo : Nat → Int64) (gr : Int32) (n : Nat) (S : Nat → qSlot) (W : qWo) (p0 : Int32) (p1 : Int32) (j : JZ cy h x y ou fo gr (n + 1) ((xs_pop (xF S) S W p0 p1).2.2.1) ((xs_pop (xF S) S W p0 p1).2.2.2) S W) (hp : PI gr n S W) (hn : n < 64) : qC l D cy N0 yX8_pop cX8_pop 7 (some .long) (4 * 101 + 20) (200 * 101 + 700) (qP1 (xs_pop (xF S) S W p0 p1).2.2.2.2.1 - qP1 W.2.1) (qP2 (xs_pop (xF S) S W p0 p1).2.2.2.2.1 - qP2 W.2.1) [.ref y, .int p0, .int p1] h (fun v h' => v = some (.long ((xs_pop (xF S) S W p0 p1).2.1)) ∧ ∃ W' : qWo, JZ cy h' x y ou fo gr (n + 1) ((xs_pop (xF S) S W p0 p1).2.2.1) W' ((xs_pop (xF S) S W p0 p1).2.2.1) W' ∧ PI gr (n + 1) ((xs_pop (xF S) S W p0 p1).2.2.1) W' ∧ W'.1.2.2.2.2.2.2.2.1 = (xs_pop (xF S) S W p0 p1).1 ∧ W'.2 = ((xs_pop (xF S) S W p0 p1).2.2.2).2) (fun E h' => False) := by
  obtain ⟨mk, sl, bl, kr, vr, Ed, fs, bd, br, eb, Im, Xb, g, A, ra, rk, rv, pa, ad, hz, hQ, hA, hou, hmk, hEd, hrn, hdj, hno⟩ := j
  obtain ⟨K, dp, hpi⟩ := id hp
  have hp9 : PI gr (n + 1) ((xs_pop (xF S) S W p0 p1).2.2.1) ((xs_pop (xF S) S W p0 p1).2.2.2) := hp.pop
  have hqs : QS W ((xs_pop (xF S) S W p0 p1).2.2.2) := qo_pop hp
  obtain ⟨⟨ms, mb, mw, od, pt, ro, gr9, cd, ca, mv, ct, fau, rn⟩, a, k⟩ := W
  obtain rfl : gr9 = gr := hpi.2.2.2.2.2.2.1
  obtain ⟨fi, re, rc, rs, so, ot, cn, la, hY⟩ := hQ.1.yo2
  refine (w_pop l D cy N0 h y ms mb mw od pt fi re rc rs so ot cn la ro gr9 cd ca mv ct fau (nI a.1) (nI k.1) rn ra rk rv S pa A a k (xRs S) ad (S 999).2.2.1 (n + 2) 1 101 100 dp (xF S) p0 p1 _ hY hQ hpi.hI hpi.hV (by omega) (w_forceAll l D cy N0 y (n + 2) (S 999).2.2.1 (xRs S) ad (by omega) hpi.2.2.2.2.1 101) hpi.G (by decide) hpi.hSt rfl).mono (fun v h' hq => ?_) (fun _ _ z => z)
  obtain ⟨rfl, A', hQ9, hf9⟩ := hq
  obtain ⟨j9, p9⟩ := JZ.fin hz hQ hA hou hmk hEd hrn hdj hno hp9 (fun i9 hi9 => xt_pop i9 hi9) rfl hqs hQ9 hf9 rfl rfl rfl ⟨rfl, rfl, rfl, rfl, rfl, rfl⟩ rfl
  exact ⟨rfl, _, j9, p9, rfl, rfl⟩
set_option maxRecDepth 100000 in
set_option maxHeartbeats 4000000 in
theorem wl_front (l : Launch) (D : va_G) (cy : Nat → ClassId) (N0 : Nat) (h : qH) (x y ou : Nat) (fo : Nat → Int64) (gr : Int32) (n : Nat) (S : Nat → qSlot) (W : qWo) (p0 : Int32) (j : JZ cy h x y ou fo gr (n + 1) (S) (W) S W) (hp : PI gr n S W) (hn : n < 64) : qC l D cy N0 yX8_front cX8_front 3 (some .long) 2 60 0 0 [.ref y, .int p0] h (fun v h' => v = some (.long ((xs_front S W.2.1 p0).2)) ∧ ∃ W' : qWo, JZ cy h' x y ou fo gr (n + 1) (S) W' (S) W' ∧ PI gr (n + 1) (S) W' ∧ W'.1.2.2.2.2.2.2.2.1 = (xs_front S W.2.1 p0).1 ∧ W'.2 = (W).2) (fun E h' => False) := by
  obtain ⟨mk, sl, bl, kr, vr, Ed, fs, bd, br, eb, Im, Xb, g, A, ra, rk, rv, pa, ad, hz, hQ, hA, hou, hmk, hEd, hrn, hdj, hno⟩ := j
  obtain ⟨K, dp, hpi⟩ := id hp
  have hp9 : PI gr (n + 1) (S) (W) := hp.up
  have hqs : QS W (W) := QS.rf
  obtain ⟨⟨ms, mb, mw, od, pt, ro, gr9, cd, ca, mv, ct, fau, rn⟩, a, k⟩ := W
  obtain rfl : gr9 = gr := hpi.2.2.2.2.2.2.1
  obtain ⟨fi, re, rc, rs, so, ot, cn, la, hY⟩ := hQ.1.yo2
  refine (w_front l D cy N0 h y ms mb mw od pt fi re rc rs so ot cn la ro gr9 cd ca mv ct fau (nI a.1) (nI k.1) rn ra rk rv S pa A a k (xRs S) ad (S 999).2.2.1 (n + 2) 1 101 100 dp (xF S) p0 _ hY hQ hpi.hI hpi.hV (by omega) (w_forceAll l D cy N0 y (n + 2) (S 999).2.2.1 (xRs S) ad (by omega) hpi.2.2.2.2.1 101) hpi.G (by decide) hpi.hSt rfl).mono (fun v h' hq => ?_) (fun _ _ z => z)
  obtain ⟨rfl, hQ9, hf9⟩ := hq
  obtain ⟨j9, p9⟩ := JZ.fin hz hQ hA hou hmk hEd hrn hdj hno hp9 (fun _ _ => rfl) rfl hqs hQ9 hf9 rfl rfl rfl ⟨rfl, rfl, rfl, rfl, rfl, rfl⟩ rfl
  exact ⟨rfl, _, j9, p9, rfl, rfl⟩
set_option maxRecDepth 100000 in
set_option maxHeartbeats 4000000 in
theorem wl_put (l : Launch) (D : va_G) (cy : Nat → ClassId) (N0 : Nat) (h : qH) (x y ou : Nat) (fo : Nat → Int64) (gr : Int32) (n : Nat) (S : Nat → qSlot) (W : qWo) (p0 : Int32) (p1 : Int32) (p2 : Int64) (p3 : Int64) (j : JZ cy h x y ou fo gr (n + 1) ((xs_put gr S p0 p1 p2 p3).2.1) (W) S W) (hp : PI gr n S W) (hn : n < 64) : qC l D cy N0 yX8_put_ cX8_put_ 7 (some .int) 2 60 0 0 [.ref y, .int p0, .int p1, .long p2, .long p3] h (fun v h' => v = some (.int ((xs_put gr S p0 p1 p2 p3).2.2)) ∧ ∃ W' : qWo, JZ cy h' x y ou fo gr (n + 1) ((xs_put gr S p0 p1 p2 p3).2.1) W' ((xs_put gr S p0 p1 p2 p3).2.1) W' ∧ PI gr (n + 1) ((xs_put gr S p0 p1 p2 p3).2.1) W' ∧ W'.1.2.2.2.2.2.2.2.1 = (xs_put gr S p0 p1 p2 p3).1 ∧ W'.2 = (W).2) (fun E h' => False) := by
  obtain ⟨mk, sl, bl, kr, vr, Ed, fs, bd, br, eb, Im, Xb, g, A, ra, rk, rv, pa, ad, hz, hQ, hA, hou, hmk, hEd, hrn, hdj, hno⟩ := j
  obtain ⟨K, dp, hpi⟩ := id hp
  have hp9 : PI gr (n + 1) ((xs_put gr S p0 p1 p2 p3).2.1) (W) := hp.putc
  have hqs : QS W (W) := QS.rf
  obtain ⟨⟨ms, mb, mw, od, pt, ro, gr9, cd, ca, mv, ct, fau, rn⟩, a, k⟩ := W
  obtain rfl : gr9 = gr := hpi.2.2.2.2.2.2.1
  obtain ⟨fi, re, rc, rs, so, ot, cn, la, hY⟩ := hQ.1.yo2
  refine (w_put_ l D cy N0 h y ms mb mw od pt fi re rc rs so ot cn la ro gr9 cd ca mv ct fau (nI a.1) (nI k.1) rn ra rk rv S p0 p1 p2 p3 hY hpi.hI pa A a k (S 999).2.2.1 (xRs S) ad hQ).mono (fun v h' hq => ?_) (fun _ _ z => z)
  obtain ⟨rfl, hQ9, hf9⟩ := hq
  obtain ⟨j9, p9⟩ := JZ.fin hz hQ hA hou hmk hEd hrn hdj hno hp9 (fun i9 hi9 => xt_put i9 hi9) rfl hqs hQ9 hf9 rfl rfl rfl ⟨rfl, rfl, rfl, rfl, rfl, rfl⟩ rfl
  exact ⟨rfl, _, j9, p9, rfl, rfl⟩
set_option maxRecDepth 100000 in
set_option maxHeartbeats 4000000 in
theorem wl_find (l : Launch) (D : va_G) (cy : Nat → ClassId) (N0 : Nat) (h : qH) (x y ou : Nat) (fo : Nat → Int64) (gr : Int32) (n : Nat) (S : Nat → qSlot) (W : qWo) (p0 : Int32) (p1 : Int64) (j : JZ cy h x y ou fo gr (n + 1) (S) (W) S W) (hp : PI gr n S W) (hn : n < 64) : qC l D cy N0 yX8_find_ cX8_find_ 5 (some .long) 1 24 0 0 [.ref y, .int p0, .long p1] h (fun v h' => v = some (.long ((xs_find S p0 p1).2)) ∧ ∃ W' : qWo, JZ cy h' x y ou fo gr (n + 1) (S) W' (S) W' ∧ PI gr (n + 1) (S) W' ∧ W'.1.2.2.2.2.2.2.2.1 = (xs_find S p0 p1).1 ∧ W'.2 = (W).2) (fun E h' => False) := by
  obtain ⟨mk, sl, bl, kr, vr, Ed, fs, bd, br, eb, Im, Xb, g, A, ra, rk, rv, pa, ad, hz, hQ, hA, hou, hmk, hEd, hrn, hdj, hno⟩ := j
  obtain ⟨K, dp, hpi⟩ := id hp
  have hp9 : PI gr (n + 1) (S) (W) := hp.up
  have hqs : QS W (W) := QS.rf
  obtain ⟨⟨ms, mb, mw, od, pt, ro, gr9, cd, ca, mv, ct, fau, rn⟩, a, k⟩ := W
  obtain rfl : gr9 = gr := hpi.2.2.2.2.2.2.1
  obtain ⟨fi, re, rc, rs, so, ot, cn, la, hY⟩ := hQ.1.yo2
  refine (w_find_ l D cy N0 h y ms mb mw od pt fi re rc rs so ot cn la ro gr9 cd ca mv ct fau (nI a.1) (nI k.1) rn ra rk rv S p0 p1 hY hpi.hI pa A a k (S 999).2.2.1 (xRs S) ad hQ).mono (fun v h' hq => ?_) (fun _ _ z => z)
  obtain ⟨rfl, hQ9, hf9⟩ := hq
  obtain ⟨j9, p9⟩ := JZ.fin hz hQ hA hou hmk hEd hrn hdj hno hp9 (fun _ _ => rfl) rfl hqs hQ9 hf9 rfl rfl rfl ⟨rfl, rfl, rfl, rfl, rfl, rfl⟩ rfl
  exact ⟨rfl, _, j9, p9, rfl, rfl⟩
set_option maxRecDepth 100000 in
set_option maxHeartbeats 4000000 in
theorem wl_out (l : Launch) (D : va_G) (cy : Nat → ClassId) (N0 : Nat) (h : qH) (x y ou : Nat) (fo : Nat → Int64) (gr : Int32) (n : Nat) (S : Nat → qSlot) (W : qWo) (p0 : Int32) (p1 : Int32) (p2 : Int64) (j : JZ cy h x y ou fo gr (n + 1) ((xs_out S p0 p1 p2).2.1) (W) S W) (hp : PI gr n S W) (hn : n < 64) : qC l D cy N0 yX8_out cX8_out 6 (some .int) 2 60 0 0 [.ref y, .int p0, .int p1, .long p2] h (fun v h' => v = some (.int ((xs_out S p0 p1 p2).2.2)) ∧ ∃ W' : qWo, JZ cy h' x y ou fo gr (n + 1) ((xs_out S p0 p1 p2).2.1) W' ((xs_out S p0 p1 p2).2.1) W' ∧ PI gr (n + 1) ((xs_out S p0 p1 p2).2.1) W' ∧ W'.1.2.2.2.2.2.2.2.1 = (xs_out S p0 p1 p2).1 ∧ W'.2 = (W).2) (fun E h' => False) := by
  obtain ⟨mk, sl, bl, kr, vr, Ed, fs, bd, br, eb, Im, Xb, g, A, ra, rk, rv, pa, ad, hz, hQ, hA, hou, hmk, hEd, hrn, hdj, hno⟩ := j
  obtain ⟨K, dp, hpi⟩ := id hp
  have hp9 : PI gr (n + 1) ((xs_out S p0 p1 p2).2.1) (W) := hp.out
  have hqs : QS W (W) := QS.rf
  obtain ⟨⟨ms, mb, mw, od, pt, ro, gr9, cd, ca, mv, ct, fau, rn⟩, a, k⟩ := W
  obtain rfl : gr9 = gr := hpi.2.2.2.2.2.2.1
  obtain ⟨fi, re, rc, rs, so, ot, cn, la, hY⟩ := hQ.1.yo2
  refine (w_out l D cy N0 h y ms mb mw od pt fi re rc rs so ot cn la ro gr9 cd ca mv ct fau (nI a.1) (nI k.1) rn ra rk rv S p0 p1 p2 hY hpi.hI pa A a k (S 999).2.2.1 (xRs S) ad hQ).mono (fun v h' hq => ?_) (fun _ _ z => z)
  obtain ⟨rfl, hQ9, hf9⟩ := hq
  obtain ⟨j9, p9⟩ := JZ.fin hz hQ hA hou hmk hEd hrn hdj hno hp9 (fun i9 hi9 => xt_out i9 hi9) rfl hqs hQ9 hf9 rfl rfl rfl ⟨rfl, rfl, rfl, rfl, rfl, rfl⟩ rfl
  exact ⟨rfl, _, j9, p9, rfl, rfl⟩
set_option maxRecDepth 100000 in
set_option maxHeartbeats 4000000 in
theorem wl_near (l : Launch) (D : va_G) (cy : Nat → ClassId) (N0 : Nat) (h : qH) (x y ou : Nat) (fo : Nat → Int64) (gr : Int32) (n : Nat) (S : Nat → qSlot) (W : qWo) (p0 : Int32) (p1 : Int64) (p2 : Int32) (j : JZ cy h x y ou fo gr (n + 1) (S) (W) S W) (hp : PI gr n S W) (hn : n < 64) : qC l D cy N0 yX8_near cX8_near 10 (some .long) 2 60 0 0 [.ref y, .int p0, .long p1, .int p2] h (fun v h' => v = some (.long ((xs_near S p0 p1 p2).2)) ∧ ∃ W' : qWo, JZ cy h' x y ou fo gr (n + 1) (S) W' (S) W' ∧ PI gr (n + 1) (S) W' ∧ W'.1.2.2.2.2.2.2.2.1 = (xs_near S p0 p1 p2).1 ∧ W'.2 = (W).2) (fun E h' => False) := by
  obtain ⟨mk, sl, bl, kr, vr, Ed, fs, bd, br, eb, Im, Xb, g, A, ra, rk, rv, pa, ad, hz, hQ, hA, hou, hmk, hEd, hrn, hdj, hno⟩ := j
  obtain ⟨K, dp, hpi⟩ := id hp
  have hp9 : PI gr (n + 1) (S) (W) := hp.up
  have hqs : QS W (W) := QS.rf
  obtain ⟨⟨ms, mb, mw, od, pt, ro, gr9, cd, ca, mv, ct, fau, rn⟩, a, k⟩ := W
  obtain rfl : gr9 = gr := hpi.2.2.2.2.2.2.1
  obtain ⟨fi, re, rc, rs, so, ot, cn, la, hY⟩ := hQ.1.yo2
  refine (w_near l D cy N0 h y ms mb mw od pt fi re rc rs so ot cn la ro gr9 cd ca mv ct fau (nI a.1) (nI k.1) rn ra rk rv S p0 p1 p2 hY pa A a k (S 999).2.2.1 (xRs S) ad hQ).mono (fun v h' hq => ?_) (fun _ _ z => z)
  obtain ⟨rfl, hQ9, hf9⟩ := hq
  obtain ⟨j9, p9⟩ := JZ.fin hz hQ hA hou hmk hEd hrn hdj hno hp9 (fun _ _ => rfl) rfl hqs hQ9 hf9 rfl rfl rfl ⟨rfl, rfl, rfl, rfl, rfl, rfl⟩ rfl
  exact ⟨rfl, _, j9, p9, rfl, rfl⟩
set_option maxRecDepth 100000 in
set_option maxHeartbeats 4000000 in
theorem wl_range (l : Launch) (D : va_G) (cy : Nat → ClassId) (N0 : Nat) (h : qH) (x y ou : Nat) (fo : Nat → Int64) (gr : Int32) (n : Nat) (S : Nat → qSlot) (W : qWo) (m0 : Nat) (p0 : Int32) (p1 : Int32) (p2 : Int64) (p3 : Int64) (j : JZ cy h x y ou fo gr (n + 1) ((xs_range S p0 p1 p2 p3 m0).2.1) ((oMv W.1 (nI (xs_range S p0 p1 p2 p3 m0).2.2.2), W.2)) S W) (hp : PI gr n S W) (hn : n < 64) (hm0 : oMq W.1 = nI m0) (hm9 : m0 ≤ 20000) : qC l D cy N0 yX8_range cX8_range 10 (some .int) 2 60 0 0 [.ref y, .int p0, .int p1, .long p2, .long p3] h (fun v h' => v = some (.int ((xs_range S p0 p1 p2 p3 m0).2.2.1)) ∧ ∃ W' : qWo, JZ cy h' x y ou fo gr (n + 1) ((xs_range S p0 p1 p2 p3 m0).2.1) W' ((xs_range S p0 p1 p2 p3 m0).2.1) W' ∧ PI gr (n + 1) ((xs_range S p0 p1 p2 p3 m0).2.1) W' ∧ W'.1.2.2.2.2.2.2.2.1 = (xs_range S p0 p1 p2 p3 m0).1 ∧ W'.2 = ((oMv W.1 (nI (xs_range S p0 p1 p2 p3 m0).2.2.2), W.2)).2) (fun E h' => False) := by
  obtain ⟨mk, sl, bl, kr, vr, Ed, fs, bd, br, eb, Im, Xb, g, A, ra, rk, rv, pa, ad, hz, hQ, hA, hou, hmk, hEd, hrn, hdj, hno⟩ := j
  obtain ⟨K, dp, hpi⟩ := id hp
  have hp9 : PI gr (n + 1) ((xs_range S p0 p1 p2 p3 m0).2.1) ((oMv W.1 (nI (xs_range S p0 p1 p2 p3 m0).2.2.2), W.2)) := (hp.range hm0 hm9)
  have hqs : QS W ((oMv W.1 (nI (xs_range S p0 p1 p2 p3 m0).2.2.2), W.2)) := QS.rf
  obtain ⟨⟨ms, mb, mw, od, pt, ro, gr9, cd, ca, mv, ct, fau, rn⟩, a, k⟩ := W
  obtain rfl : gr9 = gr := hpi.2.2.2.2.2.2.1
  obtain rfl : mv = nI m0 := hm0
  obtain ⟨fi, re, rc, rs, so, ot, cn, la, hY⟩ := hQ.1.yo2
  refine (w_range l D cy N0 h m0 y ms mb mw od pt fi re rc rs so ot cn la ro gr9 cd ca ct fau (nI a.1) (nI k.1) rn ra rk rv S p0 p1 p2 p3 hY hpi.hI hm9 pa A a k (S 999).2.2.1 (xRs S) ad hQ).mono (fun v h' hq => ?_) (fun _ _ z => z)
  obtain ⟨rfl, hQ9, hf9⟩ := hq
  obtain ⟨j9, p9⟩ := JZ.fin hz hQ hA hou hmk hEd hrn hdj hno hp9 (fun i9 hi9 => xt_range i9 hi9) rfl hqs hQ9 hf9 rfl rfl rfl ⟨rfl, rfl, rfl, rfl, rfl, rfl⟩ rfl
  exact ⟨rfl, _, j9, p9, rfl, rfl⟩
set_option maxRecDepth 100000 in
set_option maxHeartbeats 4000000 in
theorem wl_join (l : Launch) (D : va_G) (cy : Nat → ClassId) (N0 : Nat) (h : qH) (x y ou : Nat) (fo : Nat → Int64) (gr : Int32) (n : Nat) (S : Nat → qSlot) (W : qWo) (p0 : Int32) (p1 : Int32) (p2 : Int32) (j : JZ cy h x y ou fo gr (n + 1) ((xs_join S W p0 p1 p2).2.2.1) ((xs_join S W p0 p1 p2).2.2.2) S W) (hp : PI gr n S W) (hn : n < 64) : qC l D cy N0 yX8_join cX8_join 10 (some .int) 5 200 (qP1 (xs_join S W p0 p1 p2).2.2.2.2.1 - qP1 W.2.1) (qP2 (xs_join S W p0 p1 p2).2.2.2.2.1 - qP2 W.2.1) [.ref y, .int p0, .int p1, .int p2] h (fun v h' => v = some (.int ((xs_join S W p0 p1 p2).2.1)) ∧ ∃ W' : qWo, JZ cy h' x y ou fo gr (n + 1) ((xs_join S W p0 p1 p2).2.2.1) W' ((xs_join S W p0 p1 p2).2.2.1) W' ∧ PI gr (n + 1) ((xs_join S W p0 p1 p2).2.2.1) W' ∧ W'.1.2.2.2.2.2.2.2.1 = (xs_join S W p0 p1 p2).1 ∧ W'.2 = ((xs_join S W p0 p1 p2).2.2.2).2) (fun E h' => False) := by
  obtain ⟨mk, sl, bl, kr, vr, Ed, fs, bd, br, eb, Im, Xb, g, A, ra, rk, rv, pa, ad, hz, hQ, hA, hou, hmk, hEd, hrn, hdj, hno⟩ := j
  obtain ⟨K, dp, hpi⟩ := id hp
  have hp9 : PI gr (n + 1) ((xs_join S W p0 p1 p2).2.2.1) ((xs_join S W p0 p1 p2).2.2.2) := hp.join
  have hqs : QS W ((xs_join S W p0 p1 p2).2.2.2) := qo_join
  obtain ⟨⟨ms, mb, mw, od, pt, ro, gr9, cd, ca, mv, ct, fau, rn⟩, a, k⟩ := W
  obtain rfl : gr9 = gr := hpi.2.2.2.2.2.2.1
  obtain ⟨fi, re, rc, rs, so, ot, cn, la, hY⟩ := hQ.1.yo2
  refine (w_join l D cy N0 h y ms mb mw od pt fi re rc rs so ot cn la ro gr9 cd ca mv ct fau (nI a.1) (nI k.1) rn ra rk rv S pa A a k (xRs S) ad (S 999).2.2.1 (n + 2) 1 101 100 dp (xF S) p0 p1 p2 _ hY hQ hpi.hI hpi.hV (by omega) (w_forceAll l D cy N0 y (n + 2) (S 999).2.2.1 (xRs S) ad (by omega) hpi.2.2.2.2.1 101) hpi.G (by decide) hpi.hSt hpi.hDp rfl).mono (fun v h' hq => ?_) (fun _ _ z => z)
  obtain ⟨rfl, A', hQ9, hf9⟩ := hq
  obtain ⟨j9, p9⟩ := JZ.fin hz hQ hA hou hmk hEd hrn hdj hno hp9 (fun i9 hi9 => xt_join i9 hi9) rfl hqs hQ9 hf9 rfl rfl rfl ⟨rfl, rfl, rfl, rfl, rfl, rfl⟩ rfl
  exact ⟨rfl, _, j9, p9, rfl, rfl⟩
set_option maxRecDepth 100000 in
set_option maxHeartbeats 4000000 in
theorem wl_meet (l : Launch) (D : va_G) (cy : Nat → ClassId) (N0 : Nat) (h : qH) (x y ou : Nat) (fo : Nat → Int64) (gr : Int32) (n : Nat) (S : Nat → qSlot) (W : qWo) (m0 : Nat) (p0 : Int32) (p1 : Int32) (p2 : Int32) (p3 : Int32) (j : JZ cy h x y ou fo gr (n + 1) ((xs_meet S p0 p1 p2 p3 m0).2.1) ((oMv W.1 (nI (xs_meet S p0 p1 p2 p3 m0).2.2.2), W.2)) S W) (hp : PI gr n S W) (hn : n < 64) (hm0 : oMq W.1 = nI m0) (hm9 : m0 ≤ 20000) : qC l D cy N0 yX8_meet cX8_meet 7 (some .int) 2 60 0 0 [.ref y, .int p0, .int p1, .int p2, .int p3] h (fun v h' => v = some (.int ((xs_meet S p0 p1 p2 p3 m0).2.2.1)) ∧ ∃ W' : qWo, JZ cy h' x y ou fo gr (n + 1) ((xs_meet S p0 p1 p2 p3 m0).2.1) W' ((xs_meet S p0 p1 p2 p3 m0).2.1) W' ∧ PI gr (n + 1) ((xs_meet S p0 p1 p2 p3 m0).2.1) W' ∧ W'.1.2.2.2.2.2.2.2.1 = (xs_meet S p0 p1 p2 p3 m0).1 ∧ W'.2 = ((oMv W.1 (nI (xs_meet S p0 p1 p2 p3 m0).2.2.2), W.2)).2) (fun E h' => False) := by
  obtain ⟨mk, sl, bl, kr, vr, Ed, fs, bd, br, eb, Im, Xb, g, A, ra, rk, rv, pa, ad, hz, hQ, hA, hou, hmk, hEd, hrn, hdj, hno⟩ := j
  obtain ⟨K, dp, hpi⟩ := id hp
  have hp9 : PI gr (n + 1) ((xs_meet S p0 p1 p2 p3 m0).2.1) ((oMv W.1 (nI (xs_meet S p0 p1 p2 p3 m0).2.2.2), W.2)) := (hp.meet hm0 hm9)
  have hqs : QS W ((oMv W.1 (nI (xs_meet S p0 p1 p2 p3 m0).2.2.2), W.2)) := QS.rf
  obtain ⟨⟨ms, mb, mw, od, pt, ro, gr9, cd, ca, mv, ct, fau, rn⟩, a, k⟩ := W
  obtain rfl : gr9 = gr := hpi.2.2.2.2.2.2.1
  obtain rfl : mv = nI m0 := hm0
  obtain ⟨fi, re, rc, rs, so, ot, cn, la, hY⟩ := hQ.1.yo2
  refine (w_meet l D cy N0 h m0 y ms mb mw od pt fi re rc rs so ot cn la ro gr9 cd ca ct fau (nI a.1) (nI k.1) rn ra rk rv S p0 p1 p2 p3 hY hpi.hI hm9 pa A a k (S 999).2.2.1 (xRs S) ad hQ).mono (fun v h' hq => ?_) (fun _ _ z => z)
  obtain ⟨rfl, hQ9, hf9⟩ := hq
  obtain ⟨j9, p9⟩ := JZ.fin hz hQ hA hou hmk hEd hrn hdj hno hp9 (fun i9 hi9 => xt_meet i9 hi9) rfl hqs hQ9 hf9 rfl rfl rfl ⟨rfl, rfl, rfl, rfl, rfl, rfl⟩ rfl
  exact ⟨rfl, _, j9, p9, rfl, rfl⟩
set_option maxRecDepth 100000 in
set_option maxHeartbeats 4000000 in
theorem wl_shape (l : Launch) (D : va_G) (cy : Nat → ClassId) (N0 : Nat) (h : qH) (x y ou : Nat) (fo : Nat → Int64) (gr : Int32) (n : Nat) (S : Nat → qSlot) (W : qWo) (p0 : Int32) (j : JZ cy h x y ou fo gr (n + 1) (S) (W) S W) (hp : PI gr n S W) (hn : n < 64) : qC l D cy N0 yX8_shape cX8_shape 4 (some .int) 12 600 0 0 [.ref y, .int p0] h (fun v h' => v = some (.int ((xs_shape gr S p0).2)) ∧ ∃ W' : qWo, JZ cy h' x y ou fo gr (n + 1) (S) W' (S) W' ∧ PI gr (n + 1) (S) W' ∧ W'.1.2.2.2.2.2.2.2.1 = (xs_shape gr S p0).1 ∧ W'.2 = (W).2) (fun E h' => False) := by
  obtain ⟨mk, sl, bl, kr, vr, Ed, fs, bd, br, eb, Im, Xb, g, A, ra, rk, rv, pa, ad, hz, hQ, hA, hou, hmk, hEd, hrn, hdj, hno⟩ := j
  obtain ⟨K, dp, hpi⟩ := id hp
  have hp9 : PI gr (n + 1) (S) (W) := hp.up
  have hqs : QS W (W) := QS.rf
  obtain ⟨⟨ms, mb, mw, od, pt, ro, gr9, cd, ca, mv, ct, fau, rn⟩, a, k⟩ := W
  obtain rfl : gr9 = gr := hpi.2.2.2.2.2.2.1
  obtain ⟨fi, re, rc, rs, so, ot, cn, la, hY⟩ := hQ.1.yo2
  refine (w_shape l D cy N0 h y ms mb mw od pt fi re rc rs so ot cn la ro gr9 cd ca mv ct fau (nI a.1) (nI k.1) rn ra rk rv S pa p0 hY hpi.hI A a k (S 999).2.2.1 (xRs S) ad hQ).mono (fun v h' hq => ?_) (fun _ _ z => z)
  obtain ⟨rfl, ct', hQ9, hf9⟩ := hq
  obtain ⟨j9, p9⟩ := JZ.fin hz hQ hA hou hmk hEd hrn hdj hno hp9 (fun _ _ => rfl) rfl hqs hQ9 hf9 rfl rfl rfl ⟨rfl, rfl, rfl, rfl, rfl, rfl⟩ rfl
  exact ⟨rfl, _, j9, p9, rfl, rfl⟩
set_option maxRecDepth 100000 in
set_option maxHeartbeats 4000000 in
theorem wl_same (l : Launch) (D : va_G) (cy : Nat → ClassId) (N0 : Nat) (h : qH) (x y ou : Nat) (fo : Nat → Int64) (gr : Int32) (n : Nat) (S : Nat → qSlot) (W : qWo) (m0 : Nat) (p0 : Int32) (p1 : Int32) (j : JZ cy h x y ou fo gr (n + 1) (S) ((oMv W.1 (nI (xs_same S p0 p1 m0).2.2), W.2)) S W) (hp : PI gr n S W) (hn : n < 64) (hm0 : oMq W.1 = nI m0) (hm9 : m0 ≤ 20000) : qC l D cy N0 yX8_same cX8_same 8 (some .boolean) 2 60 0 0 [.ref y, .int p0, .int p1] h (fun v h' => v = some (.int ((xs_same S p0 p1 m0).2.1)) ∧ ∃ W' : qWo, JZ cy h' x y ou fo gr (n + 1) (S) W' (S) W' ∧ PI gr (n + 1) (S) W' ∧ W'.1.2.2.2.2.2.2.2.1 = (xs_same S p0 p1 m0).1 ∧ W'.2 = ((oMv W.1 (nI (xs_same S p0 p1 m0).2.2), W.2)).2) (fun E h' => False) := by
  obtain ⟨mk, sl, bl, kr, vr, Ed, fs, bd, br, eb, Im, Xb, g, A, ra, rk, rv, pa, ad, hz, hQ, hA, hou, hmk, hEd, hrn, hdj, hno⟩ := j
  obtain ⟨K, dp, hpi⟩ := id hp
  have hp9 : PI gr (n + 1) (S) ((oMv W.1 (nI (xs_same S p0 p1 m0).2.2), W.2)) := (hp.same hm0 hm9)
  have hqs : QS W ((oMv W.1 (nI (xs_same S p0 p1 m0).2.2), W.2)) := QS.rf
  obtain ⟨⟨ms, mb, mw, od, pt, ro, gr9, cd, ca, mv, ct, fau, rn⟩, a, k⟩ := W
  obtain rfl : gr9 = gr := hpi.2.2.2.2.2.2.1
  obtain rfl : mv = nI m0 := hm0
  obtain ⟨fi, re, rc, rs, so, ot, cn, la, hY⟩ := hQ.1.yo2
  refine (w_same l D cy N0 h m0 y ms mb mw od pt fi re rc rs so ot cn la ro gr9 cd ca ct fau (nI a.1) (nI k.1) rn ra rk rv S p0 p1 hY hpi.hI hm9 pa A a k (S 999).2.2.1 (xRs S) ad hQ).mono (fun v h' hq => ?_) (fun _ _ z => z)
  obtain ⟨rfl, hQ9, hf9⟩ := hq
  obtain ⟨j9, p9⟩ := JZ.fin hz hQ hA hou hmk hEd hrn hdj hno hp9 (fun _ _ => rfl) rfl hqs hQ9 hf9 rfl rfl rfl ⟨rfl, rfl, rfl, rfl, rfl, rfl⟩ rfl
  exact ⟨rfl, _, j9, p9, rfl, rfl⟩
set_option maxRecDepth 100000 in
set_option maxHeartbeats 4000000 in
theorem wl_map (l : Launch) (D : va_G) (cy : Nat → ClassId) (N0 : Nat) (h : qH) (x y ou : Nat) (fo : Nat → Int64) (gr : Int32) (n : Nat) (S : Nat → qSlot) (W : qWo) (p0 : Int32) (p1 : Int32) (p2 : Int32) (p3 : Int64) (j : JZ cy h x y ou fo gr (n + 1) ((xs_map S W p0 p1 p2 p3).2.1) ((xs_map S W p0 p1 p2 p3).2.2) S W) (hp : PI gr n S W) (hn : n < 64) : qC l D cy N0 yX8_map cX8_map 8 none 5 200 (qP1 (xs_map S W p0 p1 p2 p3).2.2.2.1 - qP1 W.2.1) (qP2 (xs_map S W p0 p1 p2 p3).2.2.2.1 - qP2 W.2.1) [.ref y, .int p0, .int p1, .int p2, .long p3] h (fun v h' => v = none ∧ ∃ W' : qWo, JZ cy h' x y ou fo gr (n + 1) ((xs_map S W p0 p1 p2 p3).2.1) W' ((xs_map S W p0 p1 p2 p3).2.1) W' ∧ PI gr (n + 1) ((xs_map S W p0 p1 p2 p3).2.1) W' ∧ W'.1.2.2.2.2.2.2.2.1 = (xs_map S W p0 p1 p2 p3).1 ∧ W'.2 = ((xs_map S W p0 p1 p2 p3).2.2).2) (fun E h' => False) := by
  obtain ⟨mk, sl, bl, kr, vr, Ed, fs, bd, br, eb, Im, Xb, g, A, ra, rk, rv, pa, ad, hz, hQ, hA, hou, hmk, hEd, hrn, hdj, hno⟩ := j
  obtain ⟨K, dp, hpi⟩ := id hp
  have hp9 : PI gr (n + 1) ((xs_map S W p0 p1 p2 p3).2.1) ((xs_map S W p0 p1 p2 p3).2.2) := hp.map
  have hqs : QS W ((xs_map S W p0 p1 p2 p3).2.2) := qo_map
  obtain ⟨⟨ms, mb, mw, od, pt, ro, gr9, cd, ca, mv, ct, fau, rn⟩, a, k⟩ := W
  obtain rfl : gr9 = gr := hpi.2.2.2.2.2.2.1
  obtain ⟨fi, re, rc, rs, so, ot, cn, la, hY⟩ := hQ.1.yo2
  refine (w_map l D cy N0 h y ms mb mw od pt fi re rc rs so ot cn la ro gr9 cd ca mv ct fau (nI a.1) (nI k.1) rn ra rk rv S pa A a k (xRs S) ad (S 999).2.2.1 (n + 2) 1 101 100 dp (xF S) p0 p1 p2 p3 _ hY hQ hpi.hI hpi.hV (by omega) (w_forceAll l D cy N0 y (n + 2) (S 999).2.2.1 (xRs S) ad (by omega) hpi.2.2.2.2.1 101) hpi.G (by decide) hpi.hSt hpi.hDp rfl).mono (fun v h' hq => ?_) (fun _ _ z => z)
  obtain ⟨rfl, A', hQ9, hf9⟩ := hq
  obtain ⟨j9, p9⟩ := JZ.fin hz hQ hA hou hmk hEd hrn hdj hno hp9 (fun i9 hi9 => xt_map i9 hi9) rfl hqs hQ9 hf9 rfl rfl rfl ⟨rfl, rfl, rfl, rfl, rfl, rfl⟩ rfl
  exact ⟨rfl, _, j9, p9, rfl, rfl⟩
set_option maxRecDepth 100000 in
set_option maxHeartbeats 4000000 in
theorem wl_filter (l : Launch) (D : va_G) (cy : Nat → ClassId) (N0 : Nat) (h : qH) (x y ou : Nat) (fo : Nat → Int64) (gr : Int32) (n : Nat) (S : Nat → qSlot) (W : qWo) (p0 : Int32) (p1 : Int32) (p2 : Int32) (p3 : Int64) (j : JZ cy h x y ou fo gr (n + 1) ((xs_filter (xF S) S W p0 p1 p2 p3).2.1) ((xs_filter (xF S) S W p0 p1 p2 p3).2.2) S W) (hp : PI gr n S W) (hn : n < 64) : qC l D cy N0 yX8_filter cX8_filter 9 none (4 * 101 + 20) (200 * 101 + 700) (qP1 (xs_filter (xF S) S W p0 p1 p2 p3).2.2.2.1 - qP1 W.2.1) (qP2 (xs_filter (xF S) S W p0 p1 p2 p3).2.2.2.1 - qP2 W.2.1) [.ref y, .int p0, .int p1, .int p2, .long p3] h (fun v h' => v = none ∧ ∃ W' : qWo, JZ cy h' x y ou fo gr (n + 1) ((xs_filter (xF S) S W p0 p1 p2 p3).2.1) W' ((xs_filter (xF S) S W p0 p1 p2 p3).2.1) W' ∧ PI gr (n + 1) ((xs_filter (xF S) S W p0 p1 p2 p3).2.1) W' ∧ W'.1.2.2.2.2.2.2.2.1 = (xs_filter (xF S) S W p0 p1 p2 p3).1 ∧ W'.2 = ((xs_filter (xF S) S W p0 p1 p2 p3).2.2).2) (fun E h' => False) := by
  obtain ⟨mk, sl, bl, kr, vr, Ed, fs, bd, br, eb, Im, Xb, g, A, ra, rk, rv, pa, ad, hz, hQ, hA, hou, hmk, hEd, hrn, hdj, hno⟩ := j
  obtain ⟨K, dp, hpi⟩ := id hp
  have hp9 : PI gr (n + 1) ((xs_filter (xF S) S W p0 p1 p2 p3).2.1) ((xs_filter (xF S) S W p0 p1 p2 p3).2.2) := hp.filter
  have hqs : QS W ((xs_filter (xF S) S W p0 p1 p2 p3).2.2) := qo_filter hp
  obtain ⟨⟨ms, mb, mw, od, pt, ro, gr9, cd, ca, mv, ct, fau, rn⟩, a, k⟩ := W
  obtain rfl : gr9 = gr := hpi.2.2.2.2.2.2.1
  obtain ⟨fi, re, rc, rs, so, ot, cn, la, hY⟩ := hQ.1.yo2
  refine (w_filter l D cy N0 h y ms mb mw od pt fi re rc rs so ot cn la ro gr9 cd ca mv ct fau (nI a.1) (nI k.1) rn ra rk rv S pa A a k (xRs S) ad (S 999).2.2.1 (n + 2) 0 101 100 dp (xF S) p0 p1 p2 p3 _ hY hQ hpi.hI hpi.hV (by omega) (w_forceAll l D cy N0 y (n + 2) (S 999).2.2.1 (xRs S) ad (by omega) hpi.2.2.2.2.1 101) hpi.G (by decide) hpi.hSt hpi.hDp rfl).mono (fun v h' hq => ?_) (fun _ _ z => z)
  obtain ⟨rfl, A', hQ9, hf9⟩ := hq
  obtain ⟨j9, p9⟩ := JZ.fin hz hQ hA hou hmk hEd hrn hdj hno hp9 (fun i9 hi9 => xt_filter i9 hi9) rfl hqs hQ9 hf9 rfl rfl rfl ⟨rfl, rfl, rfl, rfl, rfl, rfl⟩ rfl
  exact ⟨rfl, _, j9, p9, rfl, rfl⟩
set_option maxRecDepth 100000 in
set_option maxHeartbeats 4000000 in
theorem wl_iterate (l : Launch) (D : va_G) (cy : Nat → ClassId) (N0 : Nat) (h : qH) (x y ou : Nat) (fo : Nat → Int64) (gr : Int32) (n : Nat) (S : Nat → qSlot) (W : qWo) (p0 : Int32) (p1 : Int64) (p2 : Int32) (p3 : Int64) (j : JZ cy h x y ou fo gr (n + 1) ((xs_iterate S W p0 p1 p2 p3).2.1) ((xs_iterate S W p0 p1 p2 p3).2.2) S W) (hp : PI gr n S W) (hn : n < 64) : qC l D cy N0 yX8_iterate cX8_iterate 8 none 4 160 (qP1 (xs_iterate S W p0 p1 p2 p3).2.2.2.1 - qP1 W.2.1) (qP2 (xs_iterate S W p0 p1 p2 p3).2.2.2.1 - qP2 W.2.1) [.ref y, .int p0, .long p1, .int p2, .long p3] h (fun v h' => v = none ∧ ∃ W' : qWo, JZ cy h' x y ou fo gr (n + 1) ((xs_iterate S W p0 p1 p2 p3).2.1) W' ((xs_iterate S W p0 p1 p2 p3).2.1) W' ∧ PI gr (n + 1) ((xs_iterate S W p0 p1 p2 p3).2.1) W' ∧ W'.1.2.2.2.2.2.2.2.1 = (xs_iterate S W p0 p1 p2 p3).1 ∧ W'.2 = ((xs_iterate S W p0 p1 p2 p3).2.2).2) (fun E h' => False) := by
  obtain ⟨mk, sl, bl, kr, vr, Ed, fs, bd, br, eb, Im, Xb, g, A, ra, rk, rv, pa, ad, hz, hQ, hA, hou, hmk, hEd, hrn, hdj, hno⟩ := j
  obtain ⟨K, dp, hpi⟩ := id hp
  have hp9 : PI gr (n + 1) ((xs_iterate S W p0 p1 p2 p3).2.1) ((xs_iterate S W p0 p1 p2 p3).2.2) := hp.iterate
  have hqs : QS W ((xs_iterate S W p0 p1 p2 p3).2.2) := qo_iterate
  obtain ⟨⟨ms, mb, mw, od, pt, ro, gr9, cd, ca, mv, ct, fau, rn⟩, a, k⟩ := W
  obtain rfl : gr9 = gr := hpi.2.2.2.2.2.2.1
  obtain ⟨fi, re, rc, rs, so, ot, cn, la, hY⟩ := hQ.1.yo2
  refine (w_iterate l D cy N0 h y ms mb mw od pt fi re rc rs so ot cn la ro gr9 cd ca mv ct fau (nI a.1) (nI k.1) rn ra rk rv S pa A a k (xRs S) ad (S 999).2.2.1 (n + 2) 1 101 100 dp (xF S) p0 p1 p2 p3 _ hY hQ hpi.hI hpi.hV (by omega) (w_forceAll l D cy N0 y (n + 2) (S 999).2.2.1 (xRs S) ad (by omega) hpi.2.2.2.2.1 101) hpi.G (by decide) hpi.hSt rfl).mono (fun v h' hq => ?_) (fun _ _ z => z)
  obtain ⟨rfl, A', hQ9, hf9⟩ := hq
  obtain ⟨j9, p9⟩ := JZ.fin hz hQ hA hou hmk hEd hrn hdj hno hp9 (fun i9 hi9 => xt_iterate i9 hi9) rfl hqs hQ9 hf9 rfl rfl rfl ⟨rfl, rfl, rfl, rfl, rfl, rfl⟩ rfl
  exact ⟨rfl, _, j9, p9, rfl, rfl⟩
set_option maxRecDepth 100000 in
set_option maxHeartbeats 4000000 in
theorem wl_take (l : Launch) (D : va_G) (cy : Nat → ClassId) (N0 : Nat) (h : qH) (x y ou : Nat) (fo : Nat → Int64) (gr : Int32) (n : Nat) (S : Nat → qSlot) (W : qWo) (p0 : Int32) (p1 : Int32) (p2 : Int32) (j : JZ cy h x y ou fo gr (n + 1) ((xs_take S W p0 p1 p2).2.1) ((xs_take S W p0 p1 p2).2.2) S W) (hp : PI gr n S W) (hn : n < 64) : qC l D cy N0 yX8_take cX8_take 4 none 5 200 (qP1 (xs_take S W p0 p1 p2).2.2.2.1 - qP1 W.2.1) (qP2 (xs_take S W p0 p1 p2).2.2.2.1 - qP2 W.2.1) [.ref y, .int p0, .int p1, .int p2] h (fun v h' => v = none ∧ ∃ W' : qWo, JZ cy h' x y ou fo gr (n + 1) ((xs_take S W p0 p1 p2).2.1) W' ((xs_take S W p0 p1 p2).2.1) W' ∧ PI gr (n + 1) ((xs_take S W p0 p1 p2).2.1) W' ∧ W'.1.2.2.2.2.2.2.2.1 = (xs_take S W p0 p1 p2).1 ∧ W'.2 = ((xs_take S W p0 p1 p2).2.2).2) (fun E h' => False) := by
  obtain ⟨mk, sl, bl, kr, vr, Ed, fs, bd, br, eb, Im, Xb, g, A, ra, rk, rv, pa, ad, hz, hQ, hA, hou, hmk, hEd, hrn, hdj, hno⟩ := j
  obtain ⟨K, dp, hpi⟩ := id hp
  have hp9 : PI gr (n + 1) ((xs_take S W p0 p1 p2).2.1) ((xs_take S W p0 p1 p2).2.2) := hp.take
  have hqs : QS W ((xs_take S W p0 p1 p2).2.2) := qo_take
  obtain ⟨⟨ms, mb, mw, od, pt, ro, gr9, cd, ca, mv, ct, fau, rn⟩, a, k⟩ := W
  obtain rfl : gr9 = gr := hpi.2.2.2.2.2.2.1
  obtain ⟨fi, re, rc, rs, so, ot, cn, la, hY⟩ := hQ.1.yo2
  refine (w_take l D cy N0 h y ms mb mw od pt fi re rc rs so ot cn la ro gr9 cd ca mv ct fau (nI a.1) (nI k.1) rn ra rk rv S pa A a k (xRs S) ad (S 999).2.2.1 (n + 2) 1 101 100 dp (xF S) p0 p1 p2 _ hY hQ hpi.hI hpi.hV (by omega) (w_forceAll l D cy N0 y (n + 2) (S 999).2.2.1 (xRs S) ad (by omega) hpi.2.2.2.2.1 101) hpi.G (by decide) hpi.hSt hpi.hDp rfl).mono (fun v h' hq => ?_) (fun _ _ z => z)
  obtain ⟨rfl, A', hQ9, hf9⟩ := hq
  obtain ⟨j9, p9⟩ := JZ.fin hz hQ hA hou hmk hEd hrn hdj hno hp9 (fun i9 hi9 => xt_take i9 hi9) rfl hqs hQ9 hf9 rfl rfl rfl ⟨rfl, rfl, rfl, rfl, rfl, rfl⟩ rfl
  exact ⟨rfl, _, j9, p9, rfl, rfl⟩
set_option maxRecDepth 100000 in
set_option maxHeartbeats 4000000 in
theorem wl_list (l : Launch) (D : va_G) (cy : Nat → ClassId) (N0 : Nat) (h : qH) (x y ou : Nat) (fo : Nat → Int64) (gr : Int32) (n : Nat) (S : Nat → qSlot) (W : qWo) (p0 : Int32) (p1 : Int32) (p2 : Int32) (j : JZ cy h x y ou fo gr (n + 1) ((xs_list (xF S) S W p0 p1 p2).2.2.1) ((xs_list (xF S) S W p0 p1 p2).2.2.2) S W) (hp : PI gr n S W) (hn : n < 64) : qC l D cy N0 yX8_list cX8_list 5 (some .int) (4 * 101 + 20) (200 * 101 + 700) (qP1 (xs_list (xF S) S W p0 p1 p2).2.2.2.2.1 - qP1 W.2.1) (qP2 (xs_list (xF S) S W p0 p1 p2).2.2.2.2.1 - qP2 W.2.1) [.ref y, .int p0, .int p1, .int p2] h (fun v h' => v = some (.int ((xs_list (xF S) S W p0 p1 p2).2.1)) ∧ ∃ W' : qWo, JZ cy h' x y ou fo gr (n + 1) ((xs_list (xF S) S W p0 p1 p2).2.2.1) W' ((xs_list (xF S) S W p0 p1 p2).2.2.1) W' ∧ PI gr (n + 1) ((xs_list (xF S) S W p0 p1 p2).2.2.1) W' ∧ W'.1.2.2.2.2.2.2.2.1 = (xs_list (xF S) S W p0 p1 p2).1 ∧ W'.2 = ((xs_list (xF S) S W p0 p1 p2).2.2.2).2) (fun E h' => False) := by
  obtain ⟨mk, sl, bl, kr, vr, Ed, fs, bd, br, eb, Im, Xb, g, A, ra, rk, rv, pa, ad, hz, hQ, hA, hou, hmk, hEd, hrn, hdj, hno⟩ := j
  obtain ⟨K, dp, hpi⟩ := id hp
  have hp9 : PI gr (n + 1) ((xs_list (xF S) S W p0 p1 p2).2.2.1) ((xs_list (xF S) S W p0 p1 p2).2.2.2) := hp.list
  have hqs : QS W ((xs_list (xF S) S W p0 p1 p2).2.2.2) := qo_list hp
  obtain ⟨⟨ms, mb, mw, od, pt, ro, gr9, cd, ca, mv, ct, fau, rn⟩, a, k⟩ := W
  obtain rfl : gr9 = gr := hpi.2.2.2.2.2.2.1
  obtain ⟨fi, re, rc, rs, so, ot, cn, la, hY⟩ := hQ.1.yo2
  refine (w_list l D cy N0 h y ms mb mw od pt fi re rc rs so ot cn la ro gr9 cd ca mv ct fau (nI a.1) (nI k.1) rn ra rk rv S pa A a k (xRs S) ad (S 999).2.2.1 (n + 2) 1 101 100 dp (xF S) p0 p1 p2 _ hY hQ hpi.hI hpi.hV (by omega) (w_forceAll l D cy N0 y (n + 2) (S 999).2.2.1 (xRs S) ad (by omega) hpi.2.2.2.2.1 101) hpi.G (by decide) hpi.hSt rfl).mono (fun v h' hq => ?_) (fun _ _ z => z)
  obtain ⟨rfl, A', hQ9, hf9⟩ := hq
  obtain ⟨j9, p9⟩ := JZ.fin hz hQ hA hou hmk hEd hrn hdj hno hp9 (fun i9 hi9 => xt_list i9 hi9) rfl hqs hQ9 hf9 rfl rfl rfl ⟨rfl, rfl, rfl, rfl, rfl, rfl⟩ rfl
  exact ⟨rfl, _, j9, p9, rfl, rfl⟩
set_option maxRecDepth 100000 in
set_option maxHeartbeats 4000000 in
theorem wl_open (l : Launch) (D : va_G) (cy : Nat → ClassId) (N0 : Nat) (h : qH) (x y ou : Nat) (fo : Nat → Int64) (gr : Int32) (n : Nat) (S : Nat → qSlot) (W : qWo) (p0 : Int32) (p1 : Int32) (j : JZ cy h x y ou fo gr (n + 1) ((xs_open S p0 p1).2) (W) S W) (hp : PI gr n S W) (hn : n < 64) : qC l D cy N0 yX8_open cX8_open 3 none 1 22 0 0 [.ref y, .int p0, .int p1] h (fun v h' => v = none ∧ ∃ W' : qWo, JZ cy h' x y ou fo gr (n + 1) ((xs_open S p0 p1).2) W' ((xs_open S p0 p1).2) W' ∧ PI gr (n + 1) ((xs_open S p0 p1).2) W' ∧ W'.1.2.2.2.2.2.2.2.1 = (xs_open S p0 p1).1 ∧ W'.2 = (W).2) (fun E h' => False) := by
  obtain ⟨mk, sl, bl, kr, vr, Ed, fs, bd, br, eb, Im, Xb, g, A, ra, rk, rv, pa, ad, hz, hQ, hA, hou, hmk, hEd, hrn, hdj, hno⟩ := j
  obtain ⟨K, dp, hpi⟩ := id hp
  have hp9 : PI gr (n + 1) ((xs_open S p0 p1).2) (W) := hp.opn
  have hqs : QS W (W) := QS.rf
  obtain ⟨⟨ms, mb, mw, od, pt, ro, gr9, cd, ca, mv, ct, fau, rn⟩, a, k⟩ := W
  obtain rfl : gr9 = gr := hpi.2.2.2.2.2.2.1
  obtain ⟨fi, re, rc, rs, so, ot, cn, la, hY⟩ := hQ.1.yo2
  refine (w_open l D cy N0 h y ms mb mw od pt fi re rc rs so ot cn la ro gr9 cd ca mv ct fau (nI a.1) (nI k.1) rn ra rk rv S p0 p1 hY pa A a k (S 999).2.2.1 (xRs S) ad hQ).mono (fun v h' hq => ?_) (fun _ _ z => z)
  obtain ⟨rfl, hQ9, hf9⟩ := hq
  obtain ⟨j9, p9⟩ := JZ.fin hz hQ hA hou hmk hEd hrn hdj hno hp9 (fun i9 hi9 => xt_open i9 hi9) rfl hqs hQ9 hf9 rfl rfl rfl ⟨rfl, rfl, rfl, rfl, rfl, rfl⟩ rfl
  exact ⟨rfl, _, j9, p9, rfl, rfl⟩
set_option maxRecDepth 100000 in
set_option maxHeartbeats 4000000 in
theorem wl_build (l : Launch) (D : va_G) (cy : Nat → ClassId) (N0 : Nat) (h : qH) (x y ou : Nat) (fo : Nat → Int64) (gr : Int32) (n : Nat) (S : Nat → qSlot) (W : qWo) (p0 : Int32) (p1 : Int32) (p2 : Int64) (p3 : Int64) (j : JZ cy h x y ou fo gr (n + 1) ((xs_build gr S p0 p1 p2 p3).2.1) (W) S W) (hp : PI gr n S W) (hn : n < 64) : qC l D cy N0 yX8_build cX8_build 9 (some .int) 2 60 0 0 [.ref y, .int p0, .int p1, .long p2, .long p3] h (fun v h' => v = some (.int ((xs_build gr S p0 p1 p2 p3).2.2)) ∧ ∃ W' : qWo, JZ cy h' x y ou fo gr (n + 1) ((xs_build gr S p0 p1 p2 p3).2.1) W' ((xs_build gr S p0 p1 p2 p3).2.1) W' ∧ PI gr (n + 1) ((xs_build gr S p0 p1 p2 p3).2.1) W' ∧ W'.1.2.2.2.2.2.2.2.1 = (xs_build gr S p0 p1 p2 p3).1 ∧ W'.2 = (W).2) (fun E h' => False) := by
  obtain ⟨mk, sl, bl, kr, vr, Ed, fs, bd, br, eb, Im, Xb, g, A, ra, rk, rv, pa, ad, hz, hQ, hA, hou, hmk, hEd, hrn, hdj, hno⟩ := j
  obtain ⟨K, dp, hpi⟩ := id hp
  have hp9 : PI gr (n + 1) ((xs_build gr S p0 p1 p2 p3).2.1) (W) := hp.build
  have hqs : QS W (W) := QS.rf
  obtain ⟨⟨ms, mb, mw, od, pt, ro, gr9, cd, ca, mv, ct, fau, rn⟩, a, k⟩ := W
  obtain rfl : gr9 = gr := hpi.2.2.2.2.2.2.1
  obtain ⟨fi, re, rc, rs, so, ot, cn, la, hY⟩ := hQ.1.yo2
  refine (w_build l D cy N0 h y ms mb mw od pt fi re rc rs so ot cn la ro gr9 cd ca mv ct fau (nI a.1) (nI k.1) rn ra rk rv S p0 p1 p2 p3 hY hpi.hI hpi.2.1 pa A a k (S 999).2.2.1 (xRs S) ad hQ).mono (fun v h' hq => ?_) (fun _ _ z => z)
  obtain ⟨rfl, hQ9, hf9⟩ := hq
  obtain ⟨j9, p9⟩ := JZ.fin hz hQ hA hou hmk hEd hrn hdj hno hp9 (fun i9 hi9 => xt_build i9 hi9) rfl hqs hQ9 hf9 rfl rfl rfl ⟨rfl, rfl, rfl, rfl, rfl, rfl⟩ rfl
  exact ⟨rfl, _, j9, p9, rfl, rfl⟩
set_option maxRecDepth 100000 in
set_option maxHeartbeats 4000000 in
theorem wl_look (l : Launch) (D : va_G) (cy : Nat → ClassId) (N0 : Nat) (h : qH) (x y ou : Nat) (fo : Nat → Int64) (gr : Int32) (n : Nat) (S : Nat → qSlot) (W : qWo) (p0 : Int32) (p1 : Int64) (j : JZ cy h x y ou fo gr (n + 1) (S) (W) S W) (hp : PI gr n S W) (hn : n < 64) : qC l D cy N0 yX8_look cX8_look 6 (some .long) 1 24 0 0 [.ref y, .int p0, .long p1] h (fun v h' => v = some (.long ((xs_look S p0 p1).2)) ∧ ∃ W' : qWo, JZ cy h' x y ou fo gr (n + 1) (S) W' (S) W' ∧ PI gr (n + 1) (S) W' ∧ W'.1.2.2.2.2.2.2.2.1 = (xs_look S p0 p1).1 ∧ W'.2 = (W).2) (fun E h' => False) := by
  obtain ⟨mk, sl, bl, kr, vr, Ed, fs, bd, br, eb, Im, Xb, g, A, ra, rk, rv, pa, ad, hz, hQ, hA, hou, hmk, hEd, hrn, hdj, hno⟩ := j
  obtain ⟨K, dp, hpi⟩ := id hp
  have hp9 : PI gr (n + 1) (S) (W) := hp.up
  have hqs : QS W (W) := QS.rf
  obtain ⟨⟨ms, mb, mw, od, pt, ro, gr9, cd, ca, mv, ct, fau, rn⟩, a, k⟩ := W
  obtain rfl : gr9 = gr := hpi.2.2.2.2.2.2.1
  obtain ⟨fi, re, rc, rs, so, ot, cn, la, hY⟩ := hQ.1.yo2
  refine (w_look l D cy N0 h y ms mb mw od pt fi re rc rs so ot cn la ro gr9 cd ca mv ct fau (nI a.1) (nI k.1) rn ra rk rv S p0 p1 hY pa A a k (S 999).2.2.1 (xRs S) ad hQ).mono (fun v h' hq => ?_) (fun _ _ z => z)
  obtain ⟨rfl, hQ9, hf9⟩ := hq
  obtain ⟨j9, p9⟩ := JZ.fin hz hQ hA hou hmk hEd hrn hdj hno hp9 (fun _ _ => rfl) rfl hqs hQ9 hf9 rfl rfl rfl ⟨rfl, rfl, rfl, rfl, rfl, rfl⟩ rfl
  exact ⟨rfl, _, j9, p9, rfl, rfl⟩
set_option maxRecDepth 100000 in
set_option maxHeartbeats 4000000 in
theorem wl_freeze (l : Launch) (D : va_G) (cy : Nat → ClassId) (N0 : Nat) (h : qH) (x y ou : Nat) (fo : Nat → Int64) (gr : Int32) (n : Nat) (S : Nat → qSlot) (W : qWo) (p0 : Int32) (p1 : Int32) (j : JZ cy h x y ou fo gr (n + 1) ((xs_freeze S p0 p1).2.1) (W) S W) (hp : PI gr n S W) (hn : n < 64) : qC l D cy N0 yX8_freeze cX8_freeze 3 (some .int) 1 22 0 0 [.ref y, .int p0, .int p1] h (fun v h' => v = some (.int ((xs_freeze S p0 p1).2.2)) ∧ ∃ W' : qWo, JZ cy h' x y ou fo gr (n + 1) ((xs_freeze S p0 p1).2.1) W' ((xs_freeze S p0 p1).2.1) W' ∧ PI gr (n + 1) ((xs_freeze S p0 p1).2.1) W' ∧ W'.1.2.2.2.2.2.2.2.1 = (xs_freeze S p0 p1).1 ∧ W'.2 = (W).2) (fun E h' => False) := by
  obtain ⟨mk, sl, bl, kr, vr, Ed, fs, bd, br, eb, Im, Xb, g, A, ra, rk, rv, pa, ad, hz, hQ, hA, hou, hmk, hEd, hrn, hdj, hno⟩ := j
  obtain ⟨K, dp, hpi⟩ := id hp
  have hp9 : PI gr (n + 1) ((xs_freeze S p0 p1).2.1) (W) := hp.freeze
  have hqs : QS W (W) := QS.rf
  obtain ⟨⟨ms, mb, mw, od, pt, ro, gr9, cd, ca, mv, ct, fau, rn⟩, a, k⟩ := W
  obtain rfl : gr9 = gr := hpi.2.2.2.2.2.2.1
  obtain ⟨fi, re, rc, rs, so, ot, cn, la, hY⟩ := hQ.1.yo2
  refine (w_freeze l D cy N0 h y ms mb mw od pt fi re rc rs so ot cn la ro gr9 cd ca mv ct fau (nI a.1) (nI k.1) rn ra rk rv S p0 p1 hY pa A a k (S 999).2.2.1 (xRs S) ad hQ).mono (fun v h' hq => ?_) (fun _ _ z => z)
  obtain ⟨rfl, hQ9, hf9⟩ := hq
  obtain ⟨j9, p9⟩ := JZ.fin hz hQ hA hou hmk hEd hrn hdj hno hp9 (fun i9 hi9 => xt_freeze i9 hi9) rfl hqs hQ9 hf9 rfl rfl rfl ⟨rfl, rfl, rfl, rfl, rfl, rfl⟩ rfl
  exact ⟨rfl, _, j9, p9, rfl, rfl⟩
set_option maxRecDepth 100000 in
set_option maxHeartbeats 4000000 in
theorem wl_count (l : Launch) (D : va_G) (cy : Nat → ClassId) (N0 : Nat) (h : qH) (x y ou : Nat) (fo : Nat → Int64) (gr : Int32) (n : Nat) (S : Nat → qSlot) (W : qWo) (p0 : Int32) (j : JZ cy h x y ou fo gr (n + 1) (S) (W) S W) (hp : PI gr n S W) (hn : n < 64) : qC l D cy N0 yX8_count cX8_count 4 (some .int) 1 22 0 0 [.ref y, .int p0] h (fun v h' => v = some (.int ((xs_count S (oCq W.1) (oMq W.1) p0).2)) ∧ ∃ W' : qWo, JZ cy h' x y ou fo gr (n + 1) (S) W' (S) W' ∧ PI gr (n + 1) (S) W' ∧ W'.1.2.2.2.2.2.2.2.1 = (xs_count S (oCq W.1) (oMq W.1) p0).1 ∧ W'.2 = (W).2) (fun E h' => False) := by
  obtain ⟨mk, sl, bl, kr, vr, Ed, fs, bd, br, eb, Im, Xb, g, A, ra, rk, rv, pa, ad, hz, hQ, hA, hou, hmk, hEd, hrn, hdj, hno⟩ := j
  obtain ⟨K, dp, hpi⟩ := id hp
  have hp9 : PI gr (n + 1) (S) (W) := hp.up
  have hqs : QS W (W) := QS.rf
  obtain ⟨⟨ms, mb, mw, od, pt, ro, gr9, cd, ca, mv, ct, fau, rn⟩, a, k⟩ := W
  obtain rfl : gr9 = gr := hpi.2.2.2.2.2.2.1
  obtain ⟨fi, re, rc, rs, so, ot, cn, la, hY⟩ := hQ.1.yo2
  refine (w_count l D cy N0 h y ms mb mw od pt fi re rc rs so ot cn la ro gr9 cd ca mv ct fau (nI a.1) (nI k.1) rn ra rk rv S p0 hY pa A a k (S 999).2.2.1 (xRs S) ad hQ).mono (fun v h' hq => ?_) (fun _ _ z => z)
  obtain ⟨rfl, hQ9, hf9⟩ := hq
  obtain ⟨j9, p9⟩ := JZ.fin hz hQ hA hou hmk hEd hrn hdj hno hp9 (fun _ _ => rfl) rfl hqs hQ9 hf9 rfl rfl rfl ⟨rfl, rfl, rfl, rfl, rfl, rfl⟩ rfl
  exact ⟨rfl, _, j9, p9, rfl, rfl⟩
