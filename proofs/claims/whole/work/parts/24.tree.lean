/-! ===== class Tree ===== -/
section TREE
variable {ro : Nat × (Int → Int)} {d : Nat} {Q : Option AV → AH → Prop} {hB : List AC} {tb : Int → Int} {tz : Int} {tk : Int → Int → Int} {tks : Int → Int} {tc tt : Int} {iu nm ou so pl : Int → Int} {nd : Int} {pa ba de en : Int → Int} {sc rsz fp ss cu os : Int} {a1 a2 a3 : Int → Int} {a4 : Int → Int64} {a5 b1 b2 b3 : Int → Int} {b4 : Int → Int64} {b5 : Int → Int} {le fi : Int} {xi0 : Int → Int} {xf0 xz0 xl0 : Int} {xi1 : Int → Int} {xf1 xz1 xl1 : Int} {xi2 : Int → Int} {xf2 xz2 xl2 : Int} {xi3 : Int → Int} {xf3 xz3 xl3 : Int}
set_option maxRecDepth 100000 in
set_option maxHeartbeats 4000000 in
theorem t_addScope {x : Int} (h0 : 0 ≤ sc) (h1 : sc < 10) (hQ : Q none ((heapC tb tz tk tks tc tt iu nm ou so pl nd (upZ pa sc x) (upZ ba sc (-1)) (upZ de sc 0) (upZ en sc 0) (sc + 1) rsz fp ss cu os a1 a2 a3 a4 a5 b1 b2 b3 b4 b5 le fi xi0 xf0 xz0 xl0 xi1 xf1 xz1 xl1 xi2 xf2 xz2 xl2 xi3 xf3 xz3 xl3), hB)) : RNd ro (d + 1) 43 [vR 25, vI x] ((heapC tb tz tk tks tc tt iu nm ou so pl nd pa ba de en sc rsz fp ss cu os a1 a2 a3 a4 a5 b1 b2 b3 b4 b5 le fi xi0 xf0 xz0 xl0 xi1 xf1 xz1 xl1 xi2 xf2 xz2 xl2 xi3 xf3 xz3 xl3), hB) Q := by
  refine WP_run [] 60 ?_
  refine f2 ?_
  refine ix ?_
  refine ix ?_
  refine ix ?_
  refine bz ?_
  refine ix ?_
  exact hQ
set_option maxRecDepth 100000 in
set_option maxHeartbeats 4000000 in
theorem t_openText (hQ : Q none ((heapC tb tz tk tks tc tt iu nm ou so pl nd (upZ pa 0 (-1)) (upZ ba 0 (-1)) (upZ de 0 0) (upZ en 0 0) 1 rsz fp ss cu os a1 a2 a3 a4 a5 b1 b2 b3 b4 b5 le fi xi0 xf0 xz0 xl0 xi1 xf1 xz1 xl1 xi2 xf2 xz2 xl2 xi3 xf3 xz3 xl3), hB)) : RNd ro (d + 2) 42 [vR 25] ((heapC tb tz tk tks tc tt iu nm ou so pl nd pa ba de en sc rsz fp ss cu os a1 a2 a3 a4 a5 b1 b2 b3 b4 b5 le fi xi0 xf0 xz0 xl0 xi1 xf1 xz1 xl1 xi2 xf2 xz2 xl2 xi3 xf3 xz3 xl3), hB) Q := by
  refine WP_run [] 60 ?_
  refine t_addScope (by omega) (by omega) ?_
  exact hQ
set_option maxRecDepth 100000 in
set_option maxHeartbeats 4000000 in
theorem t_begin (hQ : Q none ((heapC tb tz tk tks tc tt iu nm ou so pl 0 (upZ pa 0 (-1)) (upZ ba 0 (-1)) (upZ de 0 0) (upZ en 0 0) 1 rsz (-1) 0 0 0 a1 a2 a3 a4 a5 b1 b2 b3 b4 b5 le fi xi0 xf0 xz0 xl0 xi1 xf1 xz1 xl1 xi2 xf2 xz2 xl2 xi3 xf3 xz3 xl3), hB)) : RNd ro (d + 3) 41 [vR 25] ((heapC tb tz tk tks tc tt iu nm ou so pl nd pa ba de en sc rsz fp ss cu os a1 a2 a3 a4 a5 b1 b2 b3 b4 b5 le fi xi0 xf0 xz0 xl0 xi1 xf1 xz1 xl1 xi2 xf2 xz2 xl2 xi3 xf3 xz3 xl3), hB) Q := by
  refine WP_run [] 60 ?_
  refine t_openText ?_
  exact hQ
set_option maxRecDepth 100000 in
set_option maxHeartbeats 4000000 in
theorem t_isLetter {b : Int} {h : AH} (hb : rg b) (h1 : 97 ≤ b ∧ b ≤ 122 → Q (some (vI 1)) h) (h0 : ¬ (97 ≤ b ∧ b ≤ 122) → Q (some (vI 0)) h) : RNd ro (d + 1) 94 [vI b] h Q := by
  refine WP_run [] 60 ?_
  refine c2 (fun q => ?_) (fun q => ?_) hb
  · exact rz (h0 (by omega))
  · refine c2 (fun q2 => ?_) (fun q2 => ?_) hb
    · exact rz (h0 (by omega))
    · exact rz (h1 (by omega))
set_option maxRecDepth 100000 in
set_option maxHeartbeats 4000000 in
theorem t_beginsExtension {b : Int} (hb : rg b) (h1 : b = 60 → Q (some (vI 1)) ((heapC tb tz tk tks tc tt iu nm ou so pl nd pa ba de en sc rsz fp 2 cu os a1 a2 a3 a4 a5 b1 b2 b3 b4 b5 le fi xi0 xf0 xz0 xl0 xi1 xf1 xz1 xl1 xi2 xf2 xz2 xl2 xi3 xf3 xz3 xl3), hB)) (h0 : ¬ b = 60 → Q (some (vI 0)) ((heapC tb tz tk tks tc tt iu nm ou so pl nd pa ba de en sc rsz fp ss cu os a1 a2 a3 a4 a5 b1 b2 b3 b4 b5 le fi xi0 xf0 xz0 xl0 xi1 xf1 xz1 xl1 xi2 xf2 xz2 xl2 xi3 xf3 xz3 xl3), hB)) : RNd ro (d + 1) 45 [vR 25, vI b] ((heapC tb tz tk tks tc tt iu nm ou so pl nd pa ba de en sc rsz fp ss cu os a1 a2 a3 a4 a5 b1 b2 b3 b4 b5 le fi xi0 xf0 xz0 xl0 xi1 xf1 xz1 xl1 xi2 xf2 xz2 xl2 xi3 xf3 xz3 xl3), hB) Q := by
  refine WP_run [] 60 ?_
  refine c2 (fun q => ?_) (fun q => ?_) hb
  · exact rz (h1 q)
  · exact rz (h0 q)
set_option maxRecDepth 100000 in
set_option maxHeartbeats 4000000 in
theorem t_addNode {u w x p : Int} (hu : u = 0 ∨ u = 1) (hn : 0 ≤ nd) (h0 : ¬ nd < 60 → Q (some (vI 0)) ((heapC tb tz tk tks tc tt iu nm ou so pl nd pa ba de en sc rsz fp ss cu os a1 a2 a3 a4 a5 b1 b2 b3 b4 b5 le fi xi0 xf0 xz0 xl0 xi1 xf1 xz1 xl1 xi2 xf2 xz2 xl2 xi3 xf3 xz3 xl3), hB)) (h1 : nd < 60 → Q (some (vI 1)) ((heapC tb tz tk tks tc tt (upZ iu nd u) (upZ nm nd w) (upZ ou nd x) (upZ so nd cu) (upZ pl nd p) (nd + 1) pa ba de en sc rsz fp 0 cu os a1 a2 a3 a4 a5 b1 b2 b3 b4 b5 le fi xi0 xf0 xz0 xl0 xi1 xf1 xz1 xl1 xi2 xf2 xz2 xl2 xi3 xf3 xz3 xl3), hB)) (hnd : nd ≤ 60) : RNd ro (d + 1) 53 [vR 25, vI u, vI w, vI x, vI p] ((heapC tb tz tk tks tc tt iu nm ou so pl nd pa ba de en sc rsz fp ss cu os a1 a2 a3 a4 a5 b1 b2 b3 b4 b5 le fi xi0 xf0 xz0 xl0 xi1 xf1 xz1 xl1 xi2 xf2 xz2 xl2 xi3 xf3 xz3 xl3), hB) Q := by
  refine WP_run [] 90 ?_
  refine c2 (fun q => ?_) (fun q => ?_)
  · refine bz ?_ hu
    refine ix ?_
    refine ix ?_
    refine ix ?_
    refine ix ?_
    refine ix ?_
    exact rz (h1 q)
  · exact rz (h0 q)
set_option maxRecDepth 100000 in
set_option maxHeartbeats 4000000 in
theorem t_open (hsc : 0 ≤ sc ∧ sc ≤ 10) (h0 : ¬ sc < 10 → Q (some (vI 0)) ((heapC tb tz tk tks tc tt iu nm ou so pl nd pa ba de en sc rsz fp ss cu os a1 a2 a3 a4 a5 b1 b2 b3 b4 b5 le fi xi0 xf0 xz0 xl0 xi1 xf1 xz1 xl1 xi2 xf2 xz2 xl2 xi3 xf3 xz3 xl3), hB)) (h1 : sc < 10 → Q (some (vI 1)) ((heapC tb tz tk tks tc tt iu nm ou so pl nd (upZ pa sc cu) (upZ ba sc (-1)) (upZ de sc 0) (upZ en sc 0) (sc + 1) rsz fp 1 sc os a1 a2 a3 a4 a5 b1 b2 b3 b4 b5 le fi xi0 xf0 xz0 xl0 xi1 xf1 xz1 xl1 xi2 xf2 xz2 xl2 xi3 xf3 xz3 xl3), hB)) : RNd ro (d + 2) 47 [vR 25] ((heapC tb tz tk tks tc tt iu nm ou so pl nd pa ba de en sc rsz fp ss cu os a1 a2 a3 a4 a5 b1 b2 b3 b4 b5 le fi xi0 xf0 xz0 xl0 xi1 xf1 xz1 xl1 xi2 xf2 xz2 xl2 xi3 xf3 xz3 xl3), hB) Q := by
  refine WP_run [] 90 ?_
  refine c2 (fun q => ?_) (fun q => ?_)
  · refine t_addScope (by omega) q ?_
    exact rz (h1 q)
  · exact rz (h0 q)
set_option maxRecDepth 100000 in
set_option maxHeartbeats 4000000 in
theorem t_close (hcu : 0 ≤ cu ∧ cu < 10) (h0 : ¬ 0 < cu → Q (some (vI 0)) ((heapC tb tz tk tks tc tt iu nm ou so pl nd pa ba de en sc rsz fp ss cu os a1 a2 a3 a4 a5 b1 b2 b3 b4 b5 le fi xi0 xf0 xz0 xl0 xi1 xf1 xz1 xl1 xi2 xf2 xz2 xl2 xi3 xf3 xz3 xl3), hB)) (h1 : 0 < cu → Q (some (vI 1)) ((heapC tb tz tk tks tc tt iu nm ou so pl nd pa ba de (upZ en cu 1) sc rsz fp 0 (pa cu) os a1 a2 a3 a4 a5 b1 b2 b3 b4 b5 le fi xi0 xf0 xz0 xl0 xi1 xf1 xz1 xl1 xi2 xf2 xz2 xl2 xi3 xf3 xz3 xl3), hB)) : RNd ro (d + 1) 48 [vR 25] ((heapC tb tz tk tks tc tt iu nm ou so pl nd pa ba de en sc rsz fp ss cu os a1 a2 a3 a4 a5 b1 b2 b3 b4 b5 le fi xi0 xf0 xz0 xl0 xi1 xf1 xz1 xl1 xi2 xf2 xz2 xl2 xi3 xf3 xz3 xl3), hB) Q := by
  refine WP_run [] 90 ?_
  refine c1 (fun q => ?_) (fun q => ?_)
  · refine bz ?_
    refine ix ?_
    refine ix ?_
    exact rz (h1 q)
  · exact rz (h0 q)
set_option maxRecDepth 100000 in
set_option maxHeartbeats 4000000 in
theorem t_extend {f : Int} (hf : rg f) (hsc : 0 ≤ sc ∧ sc ≤ 10) (hcu : 0 ≤ cu ∧ cu < 10) (hen : rI en 0 1) (h0 : ¬ (0 ≤ f ∧ f < sc ∧ en f = 1) → Q (some (vI 0)) ((heapC tb tz tk tks tc tt iu nm ou so pl nd pa ba de en sc rsz fp ss cu os a1 a2 a3 a4 a5 b1 b2 b3 b4 b5 le fi xi0 xf0 xz0 xl0 xi1 xf1 xz1 xl1 xi2 xf2 xz2 xl2 xi3 xf3 xz3 xl3), hB)) (h1 : 0 ≤ f ∧ f < sc ∧ en f = 1 → Q (some (vI 1)) ((heapC tb tz tk tks tc tt iu nm ou so pl nd pa (upZ ba cu f) de en sc rsz fp 0 cu os a1 a2 a3 a4 a5 b1 b2 b3 b4 b5 le fi xi0 xf0 xz0 xl0 xi1 xf1 xz1 xl1 xi2 xf2 xz2 xl2 xi3 xf3 xz3 xl3), hB)) : RNd ro (d + 1) 49 [vR 25, vI f] ((heapC tb tz tk tks tc tt iu nm ou so pl nd pa ba de en sc rsz fp ss cu os a1 a2 a3 a4 a5 b1 b2 b3 b4 b5 le fi xi0 xf0 xz0 xl0 xi1 xf1 xz1 xl1 xi2 xf2 xz2 xl2 xi3 xf3 xz3 xl3), hB) Q := by
  refine WP_run [] 90 ?_
  refine c1 (fun q => ?_) (fun q => ?_) hf
  · exact rz (h0 (by omega))
  · refine c2 (fun q2 => ?_) (fun q2 => ?_) hf
    · exact rz (h0 (by omega))
    · refine ix ?_
      have he := hen f
      refine c1 (fun q3 => ?_) (fun q3 => ?_)
      · refine ix ?_
        exact rz (h1 (by omega))
      · exact rz (h0 (by omega))
set_option maxRecDepth 100000 in
set_option maxHeartbeats 4000000 in
theorem t_goesFartherOut {b : Int} (hb : rg b) (hos : 0 ≤ os ∧ os ≤ 3) (h0 : ¬ (b = 94 ∧ os < 3) → Q (some (vI 0)) ((heapC tb tz tk tks tc tt iu nm ou so pl nd pa ba de en sc rsz fp ss cu os a1 a2 a3 a4 a5 b1 b2 b3 b4 b5 le fi xi0 xf0 xz0 xl0 xi1 xf1 xz1 xl1 xi2 xf2 xz2 xl2 xi3 xf3 xz3 xl3), hB)) (h1 : b = 94 ∧ os < 3 → Q (some (vI 1)) ((heapC tb tz tk tks tc tt iu nm ou so pl nd pa ba de en sc rsz fp ss cu (os + 1) a1 a2 a3 a4 a5 b1 b2 b3 b4 b5 le fi xi0 xf0 xz0 xl0 xi1 xf1 xz1 xl1 xi2 xf2 xz2 xl2 xi3 xf3 xz3 xl3), hB)) : RNd ro (d + 1) 50 [vR 25, vI b] ((heapC tb tz tk tks tc tt iu nm ou so pl nd pa ba de en sc rsz fp ss cu os a1 a2 a3 a4 a5 b1 b2 b3 b4 b5 le fi xi0 xf0 xz0 xl0 xi1 xf1 xz1 xl1 xi2 xf2 xz2 xl2 xi3 xf3 xz3 xl3), hB) Q := by
  refine WP_run [] 90 ?_
  refine c2 (fun q => ?_) (fun q => ?_) hb
  · exact rz (h0 (by omega))
  · refine c2 (fun q2 => ?_) (fun q2 => ?_)
    · exact rz (h1 (by omega))
    · exact rz (h0 (by omega))
set_option maxRecDepth 100000 in
set_option maxHeartbeats 4000000 in
theorem t_endsUse {b p : Int} (hb : rg b) (hn : 0 ≤ nd ∧ nd ≤ 60) (h0 : ¬ ((97 ≤ b ∧ b ≤ 122) ∧ nd < 60) → Q (some (vI 0)) ((heapC tb tz tk tks tc tt iu nm ou so pl nd pa ba de en sc rsz fp ss cu os a1 a2 a3 a4 a5 b1 b2 b3 b4 b5 le fi xi0 xf0 xz0 xl0 xi1 xf1 xz1 xl1 xi2 xf2 xz2 xl2 xi3 xf3 xz3 xl3), hB)) (h1 : (97 ≤ b ∧ b ≤ 122) ∧ nd < 60 → Q (some (vI 1)) ((heapC tb tz tk tks tc tt (upZ iu nd 1) (upZ nm nd (b - 97)) (upZ ou nd os) (upZ so nd cu) (upZ pl nd p) (nd + 1) pa ba de en sc rsz fp 0 cu os a1 a2 a3 a4 a5 b1 b2 b3 b4 b5 le fi xi0 xf0 xz0 xl0 xi1 xf1 xz1 xl1 xi2 xf2 xz2 xl2 xi3 xf3 xz3 xl3), hB)) : RNd ro (d + 2) 51 [vR 25, vI b, vI p] ((heapC tb tz tk tks tc tt iu nm ou so pl nd pa ba de en sc rsz fp ss cu os a1 a2 a3 a4 a5 b1 b2 b3 b4 b5 le fi xi0 xf0 xz0 xl0 xi1 xf1 xz1 xl1 xi2 xf2 xz2 xl2 xi3 xf3 xz3 xl3), hB) Q := by
  refine WP_run [] 90 ?_
  refine t_isLetter hb (fun q => ?_) (fun q => ?_)
  · refine f1 ?_
    refine t_addNode (by omega) hn.1 (fun q2 => ?_) (fun q2 => ?_) hn.2
    · refine t1 ?_
      exact rz (h0 (by omega))
    · refine f1 ?_
      exact rz (h1 (by omega))
  · refine t1 ?_
    exact rz (h0 (by omega))
set_option maxRecDepth 100000 in
set_option maxHeartbeats 4000000 in
theorem t_declare {w p : Int} (hw : 0 ≤ w ∧ w < 26) (hcu : 0 ≤ cu ∧ cu < 10) (hn : 0 ≤ nd ∧ nd ≤ 60) (h0 : ∀ de', ¬ (bt (de cu) w.toNat = false ∧ nd < 60) → Q (some (vI 0)) ((heapC tb tz tk tks tc tt iu nm ou so pl nd pa ba de' en sc rsz fp ss cu os a1 a2 a3 a4 a5 b1 b2 b3 b4 b5 le fi xi0 xf0 xz0 xl0 xi1 xf1 xz1 xl1 xi2 xf2 xz2 xl2 xi3 xf3 xz3 xl3), hB)) (h1 : bt (de cu) w.toNat = false ∧ nd < 60 → Q (some (vI 1)) ((heapC tb tz tk tks tc tt (upZ iu nd 0) (upZ nm nd w) (upZ ou nd 0) (upZ so nd cu) (upZ pl nd p) (nd + 1) pa ba (upZ de cu (orZ (de cu) (shlZ 1 w))) en sc rsz fp 0 cu os a1 a2 a3 a4 a5 b1 b2 b3 b4 b5 le fi xi0 xf0 xz0 xl0 xi1 xf1 xz1 xl1 xi2 xf2 xz2 xl2 xi3 xf3 xz3 xl3), hB)) : RNd ro (d + 2) 52 [vR 25, vI w, vI p] ((heapC tb tz tk tks tc tt iu nm ou so pl nd pa ba de en sc rsz fp ss cu os a1 a2 a3 a4 a5 b1 b2 b3 b4 b5 le fi xi0 xf0 xz0 xl0 xi1 xf1 xz1 xl1 xi2 xf2 xz2 xl2 xi3 xf3 xz3 xl3), hB) Q := by
  have hw2 : ((w.toNat : Nat) : Int) = w := by omega
  have hbt := bt_and (de cu) w.toNat (by omega)
  rw [hw2] at hbt
  refine WP_run [] 90 ?_
  refine ix ?_
  refine c1 (fun q => ?_) (fun q => ?_) (rg_andZ _ _)
  · refine ix ?_
    refine ix ?_
    refine t_addNode (by omega) hn.1 (fun q2 => ?_) (fun q2 => ?_) hn.2
    · exact rz (h0 _ (fun z => q2 z.2))
    · exact rz (h1 ⟨hbt.mp q, q2⟩)
  · exact rz (h0 de (fun z => q (hbt.mpr z.1)))
end TREE
