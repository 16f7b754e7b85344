def fL_isMixed_c515 (k368 : (Int32 → Int32 → Int64 → Int64 → Int32 → (Nat → Int32) → (Nat → Int32) → (Nat → Int32) → xSt → Option (Int32 × xSt))) (k378 : (Int32 → Int32 → Int64 → Int64 → Int32 → Int32 → (Nat → Int32) → (Nat → Int32) → (Nat → Int32) → xSt → Option (Int32 × xSt))) (k391 : (Int32 → Int32 → Int64 → Int64 → Int32 → Int32 → Int32 → (Nat → Int32) → (Nat → Int32) → (Nat → Int32) → xSt → Option (Int32 × xSt))) (a4 : Int32) (a5 : Int32) (a6 : Int64) (a8 : Int64) (a16 : Int32) (a17 : Int32) (a18 : Int32) (a19 : Int32) (t0 : Int32) (rd1 : (Nat → Int32)) (rd2 : (Nat → Int32)) (rd3 : (Nat → Int32)) (σ : xSt) : Option (Int32 × xSt) := (if t0 = 0 then (xl (a18 + 1) fun v69 => k391 a4 a5 a6 a8 a16 a17 v69 rd1 rd2 rd3 σ) else (xrs rd2 4 0 fun v70 => (xrs rd2 4 1 fun v71 => (xrs rd2 4 2 fun v72 => (xrs rd2 4 3 fun v73 => (if 0 ≤ (lg_cmp ((Int32.toInt64 ((((a16 * v70) + (a17 * v71)) + (a18 * v72)) + (a19 * v73))) * a8) (10 * a6)) then (xl (a18 + 1) fun v74 => k391 a4 a5 a6 a8 a16 a17 v74 rd1 rd2 rd3 σ) else some (0, σ)))))))
def fL_isMixed_c514 (k368 : (Int32 → Int32 → Int64 → Int64 → Int32 → (Nat → Int32) → (Nat → Int32) → (Nat → Int32) → xSt → Option (Int32 × xSt))) (k378 : (Int32 → Int32 → Int64 → Int64 → Int32 → Int32 → (Nat → Int32) → (Nat → Int32) → (Nat → Int32) → xSt → Option (Int32 × xSt))) (k391 : (Int32 → Int32 → Int64 → Int64 → Int32 → Int32 → Int32 → (Nat → Int32) → (Nat → Int32) → (Nat → Int32) → xSt → Option (Int32 × xSt))) (a4 : Int32) (a5 : Int32) (a6 : Int64) (a8 : Int64) (a16 : Int32) (a17 : Int32) (a18 : Int32) (a19 : Int32) (rd1 : (Nat → Int32)) (rd2 : (Nat → Int32)) (rd3 : (Nat → Int32)) (σ : xSt) : Option (Int32 × xSt) := fL_isMixed_c515 k368 k378 k391 a4 a5 a6 a8 a16 a17 a18 a19 0 rd1 rd2 rd3 σ
def fL_isMixed_c391 (k368 : (Int32 → Int32 → Int64 → Int64 → Int32 → (Nat → Int32) → (Nat → Int32) → (Nat → Int32) → xSt → Option (Int32 × xSt))) (k378 : (Int32 → Int32 → Int64 → Int64 → Int32 → Int32 → (Nat → Int32) → (Nat → Int32) → (Nat → Int32) → xSt → Option (Int32 × xSt))) : Nat → Int32 → Int32 → Int64 → Int64 → Int32 → Int32 → Int32 → (Nat → Int32) → (Nat → Int32) → (Nat → Int32) → xSt → Option (Int32 × xSt)
  | 0 => fun _ _ _ _ _ _ _ _ _ _ _ => none
  | n + 1 => fun a4 a5 a6 a8 a16 a17 a18 rd1 rd2 rd3 σ => (if 10 < ((a16 + a17) + a18) then (xl (a17 + 1) fun v58 => k378 a4 a5 a6 a8 a16 v58 rd1 rd2 rd3 σ) else (xl (((10 - a16) - a17) - a18) fun v59 => (xrs rd1 4 0 fun v60 => (xrs rd1 4 1 fun v61 => (xrs rd1 4 2 fun v62 => (xrs rd1 4 3 fun v63 => (xl ((((a16 * v60) + (a17 * v61)) + (a18 * v62)) + (v59 * v63)) fun v64 => (xrs rd3 4 0 fun v65 => (if v65 < (10 * a16) then fL_isMixed_c514 k368 k378 (fL_isMixed_c391 k368 k378 n) a4 a5 a6 a8 a16 a17 a18 v59 rd1 rd2 rd3 σ else (xrs rd3 4 1 fun v66 => (if v66 < (10 * a17) then fL_isMixed_c514 k368 k378 (fL_isMixed_c391 k368 k378 n) a4 a5 a6 a8 a16 a17 a18 v59 rd1 rd2 rd3 σ else (xrs rd3 4 2 fun v67 => (if v67 < (10 * a18) then fL_isMixed_c514 k368 k378 (fL_isMixed_c391 k368 k378 n) a4 a5 a6 a8 a16 a17 a18 v59 rd1 rd2 rd3 σ else (xrs rd3 4 3 fun v68 => (if v68 < (10 * v59) then fL_isMixed_c514 k368 k378 (fL_isMixed_c391 k368 k378 n) a4 a5 a6 a8 a16 a17 a18 v59 rd1 rd2 rd3 σ else (if v64 < (10 * a4) then fL_isMixed_c514 k368 k378 (fL_isMixed_c391 k368 k378 n) a4 a5 a6 a8 a16 a17 a18 v59 rd1 rd2 rd3 σ else (if (10 * a5) < v64 then fL_isMixed_c514 k368 k378 (fL_isMixed_c391 k368 k378 n) a4 a5 a6 a8 a16 a17 a18 v59 rd1 rd2 rd3 σ else fL_isMixed_c515 k368 k378 (fL_isMixed_c391 k368 k378 n) a4 a5 a6 a8 a16 a17 a18 v59 1 rd1 rd2 rd3 σ)))))))))))))))))
theorem fL_isMixed_c391_s (k368 : (Int32 → Int32 → Int64 → Int64 → Int32 → (Nat → Int32) → (Nat → Int32) → (Nat → Int32) → xSt → Option (Int32 × xSt))) (k378 : (Int32 → Int32 → Int64 → Int64 → Int32 → Int32 → (Nat → Int32) → (Nat → Int32) → (Nat → Int32) → xSt → Option (Int32 × xSt))) (n : Nat) (a4 : Int32) (a5 : Int32) (a6 : Int64) (a8 : Int64) (a16 : Int32) (a17 : Int32) (a18 : Int32) (rd1 : (Nat → Int32)) (rd2 : (Nat → Int32)) (rd3 : (Nat → Int32)) (σ : xSt) : fL_isMixed_c391 k368 k378 (n + 1) a4 a5 a6 a8 a16 a17 a18 rd1 rd2 rd3 σ = ((if 10 < ((a16 + a17) + a18) then (xl (a17 + 1) fun v58 => k378 a4 a5 a6 a8 a16 v58 rd1 rd2 rd3 σ) else (xl (((10 - a16) - a17) - a18) fun v59 => (xrs rd1 4 0 fun v60 => (xrs rd1 4 1 fun v61 => (xrs rd1 4 2 fun v62 => (xrs rd1 4 3 fun v63 => (xl ((((a16 * v60) + (a17 * v61)) + (a18 * v62)) + (v59 * v63)) fun v64 => (xrs rd3 4 0 fun v65 => (if v65 < (10 * a16) then fL_isMixed_c514 k368 k378 (fL_isMixed_c391 k368 k378 n) a4 a5 a6 a8 a16 a17 a18 v59 rd1 rd2 rd3 σ else (xrs rd3 4 1 fun v66 => (if v66 < (10 * a17) then fL_isMixed_c514 k368 k378 (fL_isMixed_c391 k368 k378 n) a4 a5 a6 a8 a16 a17 a18 v59 rd1 rd2 rd3 σ else (xrs rd3 4 2 fun v67 => (if v67 < (10 * a18) then fL_isMixed_c514 k368 k378 (fL_isMixed_c391 k368 k378 n) a4 a5 a6 a8 a16 a17 a18 v59 rd1 rd2 rd3 σ else (xrs rd3 4 3 fun v68 => (if v68 < (10 * v59) then fL_isMixed_c514 k368 k378 (fL_isMixed_c391 k368 k378 n) a4 a5 a6 a8 a16 a17 a18 v59 rd1 rd2 rd3 σ else (if v64 < (10 * a4) then fL_isMixed_c514 k368 k378 (fL_isMixed_c391 k368 k378 n) a4 a5 a6 a8 a16 a17 a18 v59 rd1 rd2 rd3 σ else (if (10 * a5) < v64 then fL_isMixed_c514 k368 k378 (fL_isMixed_c391 k368 k378 n) a4 a5 a6 a8 a16 a17 a18 v59 rd1 rd2 rd3 σ else fL_isMixed_c515 k368 k378 (fL_isMixed_c391 k368 k378 n) a4 a5 a6 a8 a16 a17 a18 v59 1 rd1 rd2 rd3 σ))))))))))))))))) : Option (Int32 × xSt)) := rfl
def fL_isMixed_c378 (k368 : (Int32 → Int32 → Int64 → Int64 → Int32 → (Nat → Int32) → (Nat → Int32) → (Nat → Int32) → xSt → Option (Int32 × xSt))) : Nat → Int32 → Int32 → Int64 → Int64 → Int32 → Int32 → (Nat → Int32) → (Nat → Int32) → (Nat → Int32) → xSt → Option (Int32 × xSt)
  | 0 => fun _ _ _ _ _ _ _ _ _ _ => none
  | n + 1 => fun a4 a5 a6 a8 a16 a17 rd1 rd2 rd3 σ => (if 10 < (a16 + a17) then (xl (a16 + 1) fun v57 => k368 a4 a5 a6 a8 v57 rd1 rd2 rd3 σ) else fL_isMixed_c391 k368 (fL_isMixed_c378 k368 n) xFU a4 a5 a6 a8 a16 a17 0 rd1 rd2 rd3 σ)
theorem fL_isMixed_c378_s (k368 : (Int32 → Int32 → Int64 → Int64 → Int32 → (Nat → Int32) → (Nat → Int32) → (Nat → Int32) → xSt → Option (Int32 × xSt))) (n : Nat) (a4 : Int32) (a5 : Int32) (a6 : Int64) (a8 : Int64) (a16 : Int32) (a17 : Int32) (rd1 : (Nat → Int32)) (rd2 : (Nat → Int32)) (rd3 : (Nat → Int32)) (σ : xSt) : fL_isMixed_c378 k368 (n + 1) a4 a5 a6 a8 a16 a17 rd1 rd2 rd3 σ = ((if 10 < (a16 + a17) then (xl (a16 + 1) fun v57 => k368 a4 a5 a6 a8 v57 rd1 rd2 rd3 σ) else fL_isMixed_c391 k368 (fL_isMixed_c378 k368 n) xFU a4 a5 a6 a8 a16 a17 0 rd1 rd2 rd3 σ) : Option (Int32 × xSt)) := rfl
def fL_isMixed_c368 : Nat → Int32 → Int32 → Int64 → Int64 → Int32 → (Nat → Int32) → (Nat → Int32) → (Nat → Int32) → xSt → Option (Int32 × xSt)
  | 0 => fun _ _ _ _ _ _ _ _ _ => none
  | n + 1 => fun a4 a5 a6 a8 a16 rd1 rd2 rd3 σ => (if 10 < a16 then some (1, σ) else fL_isMixed_c378 (fL_isMixed_c368 n) xFU a4 a5 a6 a8 a16 0 rd1 rd2 rd3 σ)
theorem fL_isMixed_c368_s (n : Nat) (a4 : Int32) (a5 : Int32) (a6 : Int64) (a8 : Int64) (a16 : Int32) (rd1 : (Nat → Int32)) (rd2 : (Nat → Int32)) (rd3 : (Nat → Int32)) (σ : xSt) : fL_isMixed_c368 (n + 1) a4 a5 a6 a8 a16 rd1 rd2 rd3 σ = ((if 10 < a16 then some (1, σ) else fL_isMixed_c378 (fL_isMixed_c368 n) xFU a4 a5 a6 a8 a16 0 rd1 rd2 rd3 σ) : Option (Int32 × xSt)) := rfl
def fL_isMixed_c197 : Nat → Int32 → Int32 → Int64 → Int64 → UInt64 → UInt64 → UInt64 → Int32 → (Nat → Int32) → (Nat → Int32) → (Nat → Int32) → xSt → Option (Int32 × xSt)
  | 0 => fun _ _ _ _ _ _ _ _ _ _ _ _ => none
  | n + 1 => fun a4 a5 a6 a8 a10 a12 a14 a16 rd1 rd2 rd3 σ => (if 4 ≤ a16 then (xnn (FP.dsub a10 FP.dconst1) (xl (FP.dsub a10 FP.dconst1) fun d34 => (xnn d34 (xl (xdabs d34) fun d35 => (if 0 < (Op.cmpValue (FP.dcmp d35 (4502148214488346440 : UInt64)) .l) then some (0, σ) else (xnn (FP.dsub (FP.i2d a4) (4517329193108106637 : UInt64)) (xl (FP.dsub (FP.i2d a4) (4517329193108106637 : UInt64)) fun d36 => (if (Op.cmpValue (FP.dcmp a12 d36) .g) < 0 then some (0, σ) else (xnn (FP.dadd (FP.i2d a5) (4517329193108106637 : UInt64)) (xl (FP.dadd (FP.i2d a5) (4517329193108106637 : UInt64)) fun d37 => (if 0 < (Op.cmpValue (FP.dcmp a12 d37) .l) then some (0, σ) else (xnn (FP.ddiv (FP.l2d a6) (FP.l2d a8)) (xl (FP.ddiv (FP.l2d a6) (FP.l2d a8)) fun d38 => (xnn (FP.dsub a14 d38) (xl (FP.dsub a14 d38) fun d39 => (xnn d39 (xl (xdabs d39) fun d40 => (if (Op.cmpValue (FP.dcmp d40 (4532020583610935537 : UInt64)) .l) ≤ 0 then fL_isMixed_c368 xFU a4 a5 a6 a8 0 rd1 rd2 rd3 σ else some (0, σ))))))))))))))))))) else (xco (fX11_mixShare a4 a5 a16 0 σ) σ fun r41 σ42 => (xco (fX11_mixShare a4 a5 a16 1 σ42) σ42 fun r43 σ44 => (xnn (FP.ddiv (FP.i2d r41) (FP.i2d r43)) (xl (FP.ddiv (FP.i2d r41) (FP.i2d r43)) fun d45 => (if (Op.cmpValue (FP.dcmp d45 FP.dconst0) .g) < 0 then some (0, σ44) else (xrs rd3 4 a16 fun v46 => (xnn (FP.ddiv (FP.i2d v46) (4636737291354636288 : UInt64)) (xl (FP.ddiv (FP.i2d v46) (4636737291354636288 : UInt64)) fun d47 => (xnn (FP.dadd d47 (4472406533629990549 : UInt64)) (xl (FP.dadd d47 (4472406533629990549 : UInt64)) fun d48 => (if (Op.cmpValue (FP.dcmp d45 d48) .l) ≤ 0 then (xnn (FP.dadd a10 d45) (xl (FP.dadd a10 d45) fun d49 => (xrs rd1 4 a16 fun v50 => (xnn (FP.dmul d45 (FP.i2d v50)) (xl (FP.dmul d45 (FP.i2d v50)) fun d51 => (xnn (FP.dadd a12 d51) (xl (FP.dadd a12 d51) fun d52 => (xrs rd2 4 a16 fun v53 => (xnn (FP.dmul d45 (FP.i2d v53)) (xl (FP.dmul d45 (FP.i2d v53)) fun d54 => (xnn (FP.dadd a14 d54) (xl (FP.dadd a14 d54) fun d55 => (xl (a16 + 1) fun v56 => fL_isMixed_c197 n a4 a5 a6 a8 d49 d52 d55 v56 rd1 rd2 rd3 σ44))))))))))))) else some (0, σ44)))))))))))))
theorem fL_isMixed_c197_s (n : Nat) (a4 : Int32) (a5 : Int32) (a6 : Int64) (a8 : Int64) (a10 : UInt64) (a12 : UInt64) (a14 : UInt64) (a16 : Int32) (rd1 : (Nat → Int32)) (rd2 : (Nat → Int32)) (rd3 : (Nat → Int32)) (σ : xSt) : fL_isMixed_c197 (n + 1) a4 a5 a6 a8 a10 a12 a14 a16 rd1 rd2 rd3 σ = ((if 4 ≤ a16 then (xnn (FP.dsub a10 FP.dconst1) (xl (FP.dsub a10 FP.dconst1) fun d34 => (xnn d34 (xl (xdabs d34) fun d35 => (if 0 < (Op.cmpValue (FP.dcmp d35 (4502148214488346440 : UInt64)) .l) then some (0, σ) else (xnn (FP.dsub (FP.i2d a4) (4517329193108106637 : UInt64)) (xl (FP.dsub (FP.i2d a4) (4517329193108106637 : UInt64)) fun d36 => (if (Op.cmpValue (FP.dcmp a12 d36) .g) < 0 then some (0, σ) else (xnn (FP.dadd (FP.i2d a5) (4517329193108106637 : UInt64)) (xl (FP.dadd (FP.i2d a5) (4517329193108106637 : UInt64)) fun d37 => (if 0 < (Op.cmpValue (FP.dcmp a12 d37) .l) then some (0, σ) else (xnn (FP.ddiv (FP.l2d a6) (FP.l2d a8)) (xl (FP.ddiv (FP.l2d a6) (FP.l2d a8)) fun d38 => (xnn (FP.dsub a14 d38) (xl (FP.dsub a14 d38) fun d39 => (xnn d39 (xl (xdabs d39) fun d40 => (if (Op.cmpValue (FP.dcmp d40 (4532020583610935537 : UInt64)) .l) ≤ 0 then fL_isMixed_c368 xFU a4 a5 a6 a8 0 rd1 rd2 rd3 σ else some (0, σ))))))))))))))))))) else (xco (fX11_mixShare a4 a5 a16 0 σ) σ fun r41 σ42 => (xco (fX11_mixShare a4 a5 a16 1 σ42) σ42 fun r43 σ44 => (xnn (FP.ddiv (FP.i2d r41) (FP.i2d r43)) (xl (FP.ddiv (FP.i2d r41) (FP.i2d r43)) fun d45 => (if (Op.cmpValue (FP.dcmp d45 FP.dconst0) .g) < 0 then some (0, σ44) else (xrs rd3 4 a16 fun v46 => (xnn (FP.ddiv (FP.i2d v46) (4636737291354636288 : UInt64)) (xl (FP.ddiv (FP.i2d v46) (4636737291354636288 : UInt64)) fun d47 => (xnn (FP.dadd d47 (4472406533629990549 : UInt64)) (xl (FP.dadd d47 (4472406533629990549 : UInt64)) fun d48 => (if (Op.cmpValue (FP.dcmp d45 d48) .l) ≤ 0 then (xnn (FP.dadd a10 d45) (xl (FP.dadd a10 d45) fun d49 => (xrs rd1 4 a16 fun v50 => (xnn (FP.dmul d45 (FP.i2d v50)) (xl (FP.dmul d45 (FP.i2d v50)) fun d51 => (xnn (FP.dadd a12 d51) (xl (FP.dadd a12 d51) fun d52 => (xrs rd2 4 a16 fun v53 => (xnn (FP.dmul d45 (FP.i2d v53)) (xl (FP.dmul d45 (FP.i2d v53)) fun d54 => (xnn (FP.dadd a14 d54) (xl (FP.dadd a14 d54) fun d55 => (xl (a16 + 1) fun v56 => fL_isMixed_c197 n a4 a5 a6 a8 d49 d52 d55 v56 rd1 rd2 rd3 σ44))))))))))))) else some (0, σ44))))))))))))) : Option (Int32 × xSt)) := rfl
def fL_isMixed_c79 (k15 : (Int32 → (Nat → Int32) → (Nat → Int32) → (Nat → Int32) → xSt → Option (Int32 × xSt))) (a4 : Int32) (t0 : Int32) (t1 : Int32) (rd1 : (Nat → Int32)) (rd2 : (Nat → Int32)) (rd3 : (Nat → Int32)) (σ : xSt) : Option (Int32 × xSt) := (xbs 4 t1 (xl (upd rd3 (t1).toNatClampNeg t0) fun rd27 => (xrs rd1 4 a4 fun v28 => (xrs rd2 4 a4 fun v29 => (xrs rd27 4 a4 fun v30 => (xco (fX11_setFlour a4 v28 v29 v30 σ) σ fun r31 σ32 => (if r31 = 50 then (xl (a4 + 1) fun v33 => k15 v33 rd1 rd2 rd27 σ32) else some (0, σ32))))))))
def fL_isMixed_c15 : Nat → Int32 → (Nat → Int32) → (Nat → Int32) → (Nat → Int32) → xSt → Option (Int32 × xSt)
  | 0 => fun _ _ _ _ _ => none
  | n + 1 => fun a4 rd1 rd2 rd3 σ => (if 4 ≤ a4 then (xc2 (fX12_next 150 σ) fun r1 σ2 => (xc2 (fX12_next 50 σ2) fun r3 σ4 => (xl (r1 + r3) fun v5 => (xtr (fX11_mixCost r1 v5 0 σ4) σ4 3 (fun r6 σ7 => (xl (Int32.toInt64 r6) fun v8 => (xco (fX11_mixCost r1 v5 1 σ7) σ7 fun r9 σ10 => (xl (Int32.toInt64 r9) fun v11 => (xl FP.dconst0 fun v12 => (xl FP.dconst0 fun v13 => (xl FP.dconst0 fun v14 => fL_isMixed_c197 xF5 r1 v5 v8 v11 v12 v13 v14 0 rd1 rd2 rd3 σ10))))))) (fun σ7 => (xc2 (fL_isNoneX rd1 rd3 r1 v5 σ7) fun r15 σ16 => xb r15 (some (r15, σ16)))))))) else (xc2 (fX12_next 201 σ) fun r17 σ18 => (xbs 4 a4 (xl (upd rd1 (a4).toNatClampNeg r17) fun rd19 => (xc2 (fX12_next 100 σ18) fun r20 σ21 => (xbs 4 a4 (xl (upd rd2 (a4).toNatClampNeg r20) fun rd22 => (xc2 (fX12_next 3 σ21) fun r23 σ24 => (if r23 = 0 then fL_isMixed_c79 (fL_isMixed_c15 n) a4 100 a4 rd19 rd22 rd3 σ24 else (xc2 (fX12_next 11 σ24) fun r25 σ26 => fL_isMixed_c79 (fL_isMixed_c15 n) a4 (10 * r25) a4 rd19 rd22 rd3 σ26))))))))))
theorem fL_isMixed_c15_s (n : Nat) (a4 : Int32) (rd1 : (Nat → Int32)) (rd2 : (Nat → Int32)) (rd3 : (Nat → Int32)) (σ : xSt) : fL_isMixed_c15 (n + 1) a4 rd1 rd2 rd3 σ = ((if 4 ≤ a4 then (xc2 (fX12_next 150 σ) fun r1 σ2 => (xc2 (fX12_next 50 σ2) fun r3 σ4 => (xl (r1 + r3) fun v5 => (xtr (fX11_mixCost r1 v5 0 σ4) σ4 3 (fun r6 σ7 => (xl (Int32.toInt64 r6) fun v8 => (xco (fX11_mixCost r1 v5 1 σ7) σ7 fun r9 σ10 => (xl (Int32.toInt64 r9) fun v11 => (xl FP.dconst0 fun v12 => (xl FP.dconst0 fun v13 => (xl FP.dconst0 fun v14 => fL_isMixed_c197 xF5 r1 v5 v8 v11 v12 v13 v14 0 rd1 rd2 rd3 σ10))))))) (fun σ7 => (xc2 (fL_isNoneX rd1 rd3 r1 v5 σ7) fun r15 σ16 => xb r15 (some (r15, σ16)))))))) else (xc2 (fX12_next 201 σ) fun r17 σ18 => (xbs 4 a4 (xl (upd rd1 (a4).toNatClampNeg r17) fun rd19 => (xc2 (fX12_next 100 σ18) fun r20 σ21 => (xbs 4 a4 (xl (upd rd2 (a4).toNatClampNeg r20) fun rd22 => (xc2 (fX12_next 3 σ21) fun r23 σ24 => (if r23 = 0 then fL_isMixed_c79 (fL_isMixed_c15 n) a4 100 a4 rd19 rd22 rd3 σ24 else (xc2 (fX12_next 11 σ24) fun r25 σ26 => fL_isMixed_c79 (fL_isMixed_c15 n) a4 (10 * r25) a4 rd19 rd22 rd3 σ26)))))))))) : Option (Int32 × xSt)) := rfl
def fL_isMixed (σ : xSt) : Option (Int32 × xSt) := fL_isMixed_c15 xF5 0 (fun _ => 0) (fun _ => 0) (fun _ => 0) σ
abbrev rmL_isMixed : Room := { frames := 8, cells := 47, slots := 276, locals := 191 }
set_option maxRecDepth 100000 in
set_option maxHeartbeats 16000000 in
theorem mL_isMixed {l : Launch} (hl0 : l.stackTraces = false) {E : xE} (hE : xLE E) (σ : xSt) (o1 : Int32) (o2 : xSt) (hf : fL_isMixed σ = some (o1, o2)) : xLx l yL_isMixed wsL_isMixed rmL_isMixed E [.ref (E.a 52)] σ o1 o2 47 276 := by
  unfold fL_isMixed at hf
  refine xLx_of (cc := cL_isMixed) (maxL := 22) (ret := (some .boolean)) (by decide) rfl (Nat.le_of_ble_eq_true rfl) ?_
  intro p e s m args below meth c A ls ⟨hx, hb, hr, hml, hown, hts, hlk⟩ hA hGL htab hw hl
  have hG := hGL.1
  have hown : s.vm.findClass RL = some m.cls := hown
  have eF5 : xF5 = 5 := rfl
  have hl : lv_has ls 22 [(0, .ref (E.a 52))] := hl
  have hk34 := hts (.fieldLink RL 34 "OvenRoundLaw" "d" "LOvenRoundLaw$Draws;") (by decide +kernel)
  have hiL : ∀ w ∈ wsL0, w ∈ wsL_isMixed := by decide +kernel
  have hk10 := hts (.fieldLink RL 10 "OvenRoundLaw" "o" "LOvenRound;") (by decide +kernel)
  have h368 : ∀ (n : Nat) (a4 : Int32) (a5 : Int32) (a6 : Int64) (a8 : Int64) (a16 : Int32) (rd1 : (Nat → Int32)) (rd2 : (Nat → Int32)) (rd3 : (Nat → Int32)) (σ : xSt) (H : Heap) (locs : List Loc) (ls : Array Slot) (nc ns : Nat) (q1 q2 q3 : Nat), xw (xPlus E [(q1, xInts E.cA 4 rd1), (q2, xInts E.cA 4 rd2), (q3, xInts E.cA 4 rd3)]) A s.heap s σ H locs → lv_has ls 22 [(1, .ref q1), (2, .ref q2), (3, .ref q3), (4, .int a4), (5, .int a5), (6, .long a6), (8, .long a8), (16, .int a16)] → fL_isMixed_c368 n a4 a5 a6 a8 a16 rd1 rd2 rd3 σ = some (o1, o2) → nc + (0) ≤ 47 → ns + (0) ≤ 276 → W p l e rmL_isMixed s m args below meth c H locs nc ns (vx_MQ below (xQi E A o1 o2) (xXw A) args s 47 276 A) (F0 m 368 ls []) := by
    intro n368
    induction n368 with
    | zero => intro a4 a5 a6 a8 a16 rd1 rd2 rd3 σ H locs ls nc ns q1 q2 q3 hw hl hf hnc hns; exact nomatch hf
    | succ n368 ih368 =>
      have h378 : ∀ (n : Nat) (a4 : Int32) (a5 : Int32) (a6 : Int64) (a8 : Int64) (a16 : Int32) (a17 : Int32) (rd1 : (Nat → Int32)) (rd2 : (Nat → Int32)) (rd3 : (Nat → Int32)) (σ : xSt) (H : Heap) (locs : List Loc) (ls : Array Slot) (nc ns : Nat) (q1 q2 q3 : Nat), xw (xPlus E [(q1, xInts E.cA 4 rd1), (q2, xInts E.cA 4 rd2), (q3, xInts E.cA 4 rd3)]) A s.heap s σ H locs → lv_has ls 22 [(1, .ref q1), (2, .ref q2), (3, .ref q3), (4, .int a4), (5, .int a5), (6, .long a6), (8, .long a8), (16, .int a16), (17, .int a17)] → fL_isMixed_c378 (fL_isMixed_c368 n368) n a4 a5 a6 a8 a16 a17 rd1 rd2 rd3 σ = some (o1, o2) → nc + (0) ≤ 47 → ns + (0) ≤ 276 → W p l e rmL_isMixed s m args below meth c H locs nc ns (vx_MQ below (xQi E A o1 o2) (xXw A) args s 47 276 A) (F0 m 378 ls []) := by
        intro n378
        induction n378 with
        | zero => intro a4 a5 a6 a8 a16 a17 rd1 rd2 rd3 σ H locs ls nc ns q1 q2 q3 hw hl hf hnc hns; exact nomatch hf
        | succ n378 ih378 =>
          have h391 : ∀ (n : Nat) (a4 : Int32) (a5 : Int32) (a6 : Int64) (a8 : Int64) (a16 : Int32) (a17 : Int32) (a18 : Int32) (rd1 : (Nat → Int32)) (rd2 : (Nat → Int32)) (rd3 : (Nat → Int32)) (σ : xSt) (H : Heap) (locs : List Loc) (ls : Array Slot) (nc ns : Nat) (q1 q2 q3 : Nat), xw (xPlus E [(q1, xInts E.cA 4 rd1), (q2, xInts E.cA 4 rd2), (q3, xInts E.cA 4 rd3)]) A s.heap s σ H locs → lv_has ls 22 [(1, .ref q1), (2, .ref q2), (3, .ref q3), (4, .int a4), (5, .int a5), (6, .long a6), (8, .long a8), (16, .int a16), (17, .int a17), (18, .int a18)] → fL_isMixed_c391 (fL_isMixed_c368 n368) (fL_isMixed_c378 (fL_isMixed_c368 n368) n378) n a4 a5 a6 a8 a16 a17 a18 rd1 rd2 rd3 σ = some (o1, o2) → nc + (0) ≤ 47 → ns + (0) ≤ 276 → W p l e rmL_isMixed s m args below meth c H locs nc ns (vx_MQ below (xQi E A o1 o2) (xXw A) args s 47 276 A) (F0 m 391 ls []) := by
            intro n391
            induction n391 with
            | zero => intro a4 a5 a6 a8 a16 a17 a18 rd1 rd2 rd3 σ H locs ls nc ns q1 q2 q3 hw hl hf hnc hns; exact nomatch hf
            | succ n391 ih391 =>
              have h515 : ∀ (a4 : Int32) (a5 : Int32) (a6 : Int64) (a8 : Int64) (a16 : Int32) (a17 : Int32) (a18 : Int32) (a19 : Int32) (t0 : Int32) (rd1 : (Nat → Int32)) (rd2 : (Nat → Int32)) (rd3 : (Nat → Int32)) (σ : xSt) (H : Heap) (locs : List Loc) (ls : Array Slot) (nc ns : Nat) (q1 q2 q3 : Nat), xw (xPlus E [(q1, xInts E.cA 4 rd1), (q2, xInts E.cA 4 rd2), (q3, xInts E.cA 4 rd3)]) A s.heap s σ H locs → lv_has ls 22 [(1, .ref q1), (2, .ref q2), (3, .ref q3), (4, .int a4), (5, .int a5), (6, .long a6), (8, .long a8), (16, .int a16), (17, .int a17), (18, .int a18), (19, .int a19)] → fL_isMixed_c515 (fL_isMixed_c368 n368) (fL_isMixed_c378 (fL_isMixed_c368 n368) n378) (fL_isMixed_c391 (fL_isMixed_c368 n368) (fL_isMixed_c378 (fL_isMixed_c368 n368) n378) n391) a4 a5 a6 a8 a16 a17 a18 a19 t0 rd1 rd2 rd3 σ = some (o1, o2) → nc + (0) ≤ 47 → ns + (0) ≤ 276 → W p l e rmL_isMixed s m args below meth c H locs nc ns (vx_MQ below (xQi E A o1 o2) (xXw A) args s 47 276 A) (F0 m 515 ls [.int t0]) := by
                intro a4 a5 a6 a8 a16 a17 a18 a19 t0 rd1 rd2 rd3 σ H locs ls nc ns q1 q2 q3 hw hl hf hnc hns
                unfold fL_isMixed_c515 at hf
                refine lv_istore (lv' := [(21, .int t0), (1, .ref q1), (2, .ref q2), (3, .ref q3), (4, .int a4), (5, .int a5), (6, .long a6), (8, .long a8), (16, .int a16), (17, .int a17), (18, .int a18), (19, .int a19)]) hx hb dL_isMixed_515 hl (by decide) rfl (fun ls hl => ?_)
                refine lv_iload hx hb dL_isMixed_517 (lv_at hl 0 rfl) ?_
                refine lv_if_eq (tgt := 565) hx hb dL_isMixed_519 (by decide) (fun c519 => ?_) (fun c519 => ?_)
                · replace hf := xif_pos c519 hf
                  obtain ⟨v69, ex⟩ : ∃ y : Int32, y = (a18 + 1) := ⟨_, rfl⟩
                  replace hf := xl_f hf v69 ex
                  refine lv_iinc (v := v69) (lv' := [(18, .int v69), (21, .int t0), (1, .ref q1), (2, .ref q2), (3, .ref q3), (4, .int a4), (5, .int a5), (6, .long a6), (8, .long a8), (16, .int a16), (17, .int a17), (19, .int a19)]) hx hb dL_isMixed_565 hl (k := 10) rfl (by rw [ex]; rfl) (by decide) rfl (fun ls hl => ?_)
                  clear ex
                  refine lv_goto (tgt := 391) hx hb dL_isMixed_568 (by decide) ?_
                  exact ih391 a4 a5 a6 a8 a16 a17 v69 rd1 rd2 rd3 σ _ _ _ nc ns _ _ _ hw (lv_sub hl [2, 3, 4, 5, 6, 7, 8, 9, 10, 0] rfl) hf (by omega) (by omega)
                · replace hf := xif_neg c519 hf
                  refine lv_iload hx hb dL_isMixed_522 (lv_at hl 8 rfl) ?_
                  refine lv_aload_n hx hb dL_isMixed_524 rfl (lv_at hl 2 rfl) ?_
                  refine lv_iconst (v := 0) hx hb dL_isMixed_525 (by decide) ?_
                  obtain ⟨hin, hf⟩ := xrs_f hf
                  refine x_rld hx hb hw (List.mem_cons_of_mem _ List.mem_cons_self) hin dL_isMixed_526 ?_
                  refine lv_topi (fun v70 ex => ?_)
                  replace hf := hf v70 ex
                  clear ex hin
                  refine lv_imul hx hb dL_isMixed_527 ?_
                  refine lv_iload hx hb dL_isMixed_528 (lv_at hl 9 rfl) ?_
                  refine lv_aload_n hx hb dL_isMixed_530 rfl (lv_at hl 2 rfl) ?_
                  refine lv_iconst (v := 1) hx hb dL_isMixed_531 (by decide) ?_
                  obtain ⟨hin, hf⟩ := xrs_f hf
                  refine x_rld hx hb hw (List.mem_cons_of_mem _ List.mem_cons_self) hin dL_isMixed_532 ?_
                  refine lv_topi (fun v71 ex => ?_)
                  replace hf := hf v71 ex
                  clear ex hin
                  refine lv_imul hx hb dL_isMixed_533 ?_
                  refine lv_iadd hx hb dL_isMixed_534 ?_
                  refine lv_iload hx hb dL_isMixed_535 (lv_at hl 10 rfl) ?_
                  refine lv_aload_n hx hb dL_isMixed_537 rfl (lv_at hl 2 rfl) ?_
                  refine lv_iconst (v := 2) hx hb dL_isMixed_538 (by decide) ?_
                  obtain ⟨hin, hf⟩ := xrs_f hf
                  refine x_rld hx hb hw (List.mem_cons_of_mem _ List.mem_cons_self) hin dL_isMixed_539 ?_
                  refine lv_topi (fun v72 ex => ?_)
                  replace hf := hf v72 ex
                  clear ex hin
                  refine lv_imul hx hb dL_isMixed_540 ?_
                  refine lv_iadd hx hb dL_isMixed_541 ?_
                  refine lv_iload hx hb dL_isMixed_542 (lv_at hl 11 rfl) ?_
                  refine lv_aload_n hx hb dL_isMixed_544 rfl (lv_at hl 2 rfl) ?_
                  refine lv_iconst (v := 3) hx hb dL_isMixed_545 (by decide) ?_
                  obtain ⟨hin, hf⟩ := xrs_f hf
                  refine x_rld hx hb hw (List.mem_cons_of_mem _ List.mem_cons_self) hin dL_isMixed_546 ?_
                  refine lv_topi (fun v73 ex => ?_)
                  replace hf := hf v73 ex
                  clear ex hin
                  refine lv_imul hx hb dL_isMixed_547 ?_
                  refine lv_iadd hx hb dL_isMixed_548 ?_
                  refine lv_i2l hx hb dL_isMixed_549 rfl ?_
                  refine lv_lload hx hb dL_isMixed_550 (lv_at hl 7 rfl) ?_
                  refine lv_lmul hx hb dL_isMixed_552 ?_
                  refine lv_ldc2 hx hb hown (hts (.constantLong RL 252 (10)) (by decide +kernel)) dL_isMixed_553 ?_
                  refine lv_lload hx hb dL_isMixed_556 (lv_at hl 6 rfl) ?_
                  refine lv_lmul hx hb dL_isMixed_558 ?_
                  refine W.lcmp hx hb dL_isMixed_559 ?_
                  refine lv_if_ge (tgt := 565) hx hb dL_isMixed_560 (by decide) (fun c560 => ?_) (fun c560 => ?_)
                  · replace hf := xif_pos c560 hf
                    obtain ⟨v74, ex⟩ : ∃ y : Int32, y = (a18 + 1) := ⟨_, rfl⟩
                    replace hf := xl_f hf v74 ex
                    refine lv_iinc (v := v74) (lv' := [(18, .int v74), (21, .int t0), (1, .ref q1), (2, .ref q2), (3, .ref q3), (4, .int a4), (5, .int a5), (6, .long a6), (8, .long a8), (16, .int a16), (17, .int a17), (19, .int a19)]) hx hb dL_isMixed_565 hl (k := 10) rfl (by rw [ex]; rfl) (by decide) rfl (fun ls hl => ?_)
                    clear ex
                    refine lv_goto (tgt := 391) hx hb dL_isMixed_568 (by decide) ?_
                    exact ih391 a4 a5 a6 a8 a16 a17 v74 rd1 rd2 rd3 σ _ _ _ nc ns _ _ _ hw (lv_sub hl [2, 3, 4, 5, 6, 7, 8, 9, 10, 0] rfl) hf (by omega) (by omega)
                  · replace hf := xif_neg c560 hf
                    refine lv_iconst (v := 0) hx hb dL_isMixed_563 (by decide) ?_
                    exact x_Xzretc hx hb hr hlk (xw_drop hw) (by decide) hf (show nc ≤ 47 by omega) (show ns ≤ 276 by omega) dL_isMixed_564
              have h514 : ∀ (a4 : Int32) (a5 : Int32) (a6 : Int64) (a8 : Int64) (a16 : Int32) (a17 : Int32) (a18 : Int32) (a19 : Int32) (rd1 : (Nat → Int32)) (rd2 : (Nat → Int32)) (rd3 : (Nat → Int32)) (σ : xSt) (H : Heap) (locs : List Loc) (ls : Array Slot) (nc ns : Nat) (q1 q2 q3 : Nat), xw (xPlus E [(q1, xInts E.cA 4 rd1), (q2, xInts E.cA 4 rd2), (q3, xInts E.cA 4 rd3)]) A s.heap s σ H locs → lv_has ls 22 [(1, .ref q1), (2, .ref q2), (3, .ref q3), (4, .int a4), (5, .int a5), (6, .long a6), (8, .long a8), (16, .int a16), (17, .int a17), (18, .int a18), (19, .int a19)] → fL_isMixed_c514 (fL_isMixed_c368 n368) (fL_isMixed_c378 (fL_isMixed_c368 n368) n378) (fL_isMixed_c391 (fL_isMixed_c368 n368) (fL_isMixed_c378 (fL_isMixed_c368 n368) n378) n391) a4 a5 a6 a8 a16 a17 a18 a19 rd1 rd2 rd3 σ = some (o1, o2) → nc + (0) ≤ 47 → ns + (0) ≤ 276 → W p l e rmL_isMixed s m args below meth c H locs nc ns (vx_MQ below (xQi E A o1 o2) (xXw A) args s 47 276 A) (F0 m 514 ls []) := by
                intro a4 a5 a6 a8 a16 a17 a18 a19 rd1 rd2 rd3 σ H locs ls nc ns q1 q2 q3 hw hl hf hnc hns
                unfold fL_isMixed_c514 at hf
                refine lv_iconst (v := 0) hx hb dL_isMixed_514 (by decide) ?_
                exact h515 a4 a5 a6 a8 a16 a17 a18 a19 0 rd1 rd2 rd3 σ _ _ _ nc ns _ _ _ hw (lv_sub hl [0, 1, 2, 3, 4, 5, 6, 7, 8, 9, 10] rfl) hf (by omega) (by omega)
              intro a4 a5 a6 a8 a16 a17 a18 rd1 rd2 rd3 σ H locs ls nc ns q1 q2 q3 hw hl hf hnc hns
              rw [fL_isMixed_c391_s] at hf
              refine lv_iload hx hb dL_isMixed_391 (lv_at hl 7 rfl) ?_
              refine lv_iload hx hb dL_isMixed_393 (lv_at hl 8 rfl) ?_
              refine lv_iadd hx hb dL_isMixed_395 ?_
              refine lv_iload hx hb dL_isMixed_396 (lv_at hl 9 rfl) ?_
              refine lv_iadd hx hb dL_isMixed_398 ?_
              refine lv_bipush (v := 10) hx hb dL_isMixed_399 (by decide) ?_
              refine lv_icmp_gt (tgt := 571) hx hb dL_isMixed_401 (by decide) (fun c401 => ?_) (fun c401 => ?_)
              · replace hf := xif_pos c401 hf
                obtain ⟨v58, ex⟩ : ∃ y : Int32, y = (a17 + 1) := ⟨_, rfl⟩
                replace hf := xl_f hf v58 ex
                refine lv_iinc (v := v58) (lv' := [(17, .int v58), (1, .ref q1), (2, .ref q2), (3, .ref q3), (4, .int a4), (5, .int a5), (6, .long a6), (8, .long a8), (16, .int a16), (18, .int a18)]) hx hb dL_isMixed_571 hl (k := 8) rfl (by rw [ex]; rfl) (by decide) rfl (fun ls hl => ?_)
                clear ex
                refine lv_goto (tgt := 378) hx hb dL_isMixed_574 (by decide) ?_
                exact ih378 a4 a5 a6 a8 a16 v58 rd1 rd2 rd3 σ _ _ _ nc ns _ _ _ hw (lv_sub hl [1, 2, 3, 4, 5, 6, 7, 8, 0] rfl) hf (by omega) (by omega)
              · replace hf := xif_neg c401 hf
                refine lv_bipush (v := 10) hx hb dL_isMixed_404 (by decide) ?_
                refine lv_iload hx hb dL_isMixed_406 (lv_at hl 7 rfl) ?_
                refine lv_isub hx hb dL_isMixed_408 ?_
                refine lv_iload hx hb dL_isMixed_409 (lv_at hl 8 rfl) ?_
                refine lv_isub hx hb dL_isMixed_411 ?_
                refine lv_iload hx hb dL_isMixed_412 (lv_at hl 9 rfl) ?_
                refine lv_isub hx hb dL_isMixed_414 ?_
                refine lv_topi (fun v59 ex => ?_)
                replace hf := xl_f hf v59 ex
                clear ex
                refine lv_istore (lv' := [(19, .int v59), (1, .ref q1), (2, .ref q2), (3, .ref q3), (4, .int a4), (5, .int a5), (6, .long a6), (8, .long a8), (16, .int a16), (17, .int a17), (18, .int a18)]) hx hb dL_isMixed_415 hl (by decide) rfl (fun ls hl => ?_)
                refine lv_iload hx hb dL_isMixed_417 (lv_at hl 8 rfl) ?_
                refine lv_aload_n hx hb dL_isMixed_419 rfl (lv_at hl 1 rfl) ?_
                refine lv_iconst (v := 0) hx hb dL_isMixed_420 (by decide) ?_
                obtain ⟨hin, hf⟩ := xrs_f hf
                refine x_rld hx hb hw List.mem_cons_self hin dL_isMixed_421 ?_
                refine lv_topi (fun v60 ex => ?_)
                replace hf := hf v60 ex
                clear ex hin
                refine lv_imul hx hb dL_isMixed_422 ?_
                refine lv_iload hx hb dL_isMixed_423 (lv_at hl 9 rfl) ?_
                refine lv_aload_n hx hb dL_isMixed_425 rfl (lv_at hl 1 rfl) ?_
                refine lv_iconst (v := 1) hx hb dL_isMixed_426 (by decide) ?_
                obtain ⟨hin, hf⟩ := xrs_f hf
                refine x_rld hx hb hw List.mem_cons_self hin dL_isMixed_427 ?_
                refine lv_topi (fun v61 ex => ?_)
                replace hf := hf v61 ex
                clear ex hin
                refine lv_imul hx hb dL_isMixed_428 ?_
                refine lv_iadd hx hb dL_isMixed_429 ?_
                refine lv_iload hx hb dL_isMixed_430 (lv_at hl 10 rfl) ?_
                refine lv_aload_n hx hb dL_isMixed_432 rfl (lv_at hl 1 rfl) ?_
                refine lv_iconst (v := 2) hx hb dL_isMixed_433 (by decide) ?_
                obtain ⟨hin, hf⟩ := xrs_f hf
                refine x_rld hx hb hw List.mem_cons_self hin dL_isMixed_434 ?_
                refine lv_topi (fun v62 ex => ?_)
                replace hf := hf v62 ex
                clear ex hin
                refine lv_imul hx hb dL_isMixed_435 ?_
                refine lv_iadd hx hb dL_isMixed_436 ?_
                refine lv_iload hx hb dL_isMixed_437 (lv_at hl 0 rfl) ?_
                refine lv_aload_n hx hb dL_isMixed_439 rfl (lv_at hl 1 rfl) ?_
                refine lv_iconst (v := 3) hx hb dL_isMixed_440 (by decide) ?_
                obtain ⟨hin, hf⟩ := xrs_f hf
                refine x_rld hx hb hw List.mem_cons_self hin dL_isMixed_441 ?_
                refine lv_topi (fun v63 ex => ?_)
                replace hf := hf v63 ex
                clear ex hin
                refine lv_imul hx hb dL_isMixed_442 ?_
                refine lv_iadd hx hb dL_isMixed_443 ?_
                refine lv_topi (fun v64 ex => ?_)
                replace hf := xl_f hf v64 ex
                clear ex
                refine lv_istore (lv' := [(20, .int v64), (19, .int v59), (1, .ref q1), (2, .ref q2), (3, .ref q3), (4, .int a4), (5, .int a5), (6, .long a6), (8, .long a8), (16, .int a16), (17, .int a17), (18, .int a18)]) hx hb dL_isMixed_444 hl (by decide) rfl (fun ls hl => ?_)
                refine lv_bipush (v := 10) hx hb dL_isMixed_446 (by decide) ?_
                refine lv_iload hx hb dL_isMixed_448 (lv_at hl 9 rfl) ?_
                refine lv_imul hx hb dL_isMixed_450 ?_
                refine lv_aload_n hx hb dL_isMixed_451 rfl (lv_at hl 4 rfl) ?_
                refine lv_iconst (v := 0) hx hb dL_isMixed_452 (by decide) ?_
                obtain ⟨hin, hf⟩ := xrs_f hf
                refine x_rld hx hb hw (List.mem_cons_of_mem _ (List.mem_cons_of_mem _ List.mem_cons_self)) hin dL_isMixed_453 ?_
                refine lv_topi (fun v65 ex => ?_)
                replace hf := hf v65 ex
                clear ex hin
                refine lv_icmp_gt (tgt := 514) hx hb dL_isMixed_454 (by decide) (fun c454 => ?_) (fun c454 => ?_)
                · replace hf := xif_pos c454 hf
                  exact h514 a4 a5 a6 a8 a16 a17 a18 v59 rd1 rd2 rd3 σ _ _ _ nc ns _ _ _ hw (lv_sub hl [2, 3, 4, 5, 6, 7, 8, 9, 10, 11, 1] rfl) hf (by omega) (by omega)
                · replace hf := xif_neg c454 hf
                  refine lv_bipush (v := 10) hx hb dL_isMixed_457 (by decide) ?_
                  refine lv_iload hx hb dL_isMixed_459 (lv_at hl 10 rfl) ?_
                  refine lv_imul hx hb dL_isMixed_461 ?_
                  refine lv_aload_n hx hb dL_isMixed_462 rfl (lv_at hl 4 rfl) ?_
                  refine lv_iconst (v := 1) hx hb dL_isMixed_463 (by decide) ?_
                  obtain ⟨hin, hf⟩ := xrs_f hf
                  refine x_rld hx hb hw (List.mem_cons_of_mem _ (List.mem_cons_of_mem _ List.mem_cons_self)) hin dL_isMixed_464 ?_
                  refine lv_topi (fun v66 ex => ?_)
                  replace hf := hf v66 ex
                  clear ex hin
                  refine lv_icmp_gt (tgt := 514) hx hb dL_isMixed_465 (by decide) (fun c465 => ?_) (fun c465 => ?_)
                  · replace hf := xif_pos c465 hf
                    exact h514 a4 a5 a6 a8 a16 a17 a18 v59 rd1 rd2 rd3 σ _ _ _ nc ns _ _ _ hw (lv_sub hl [2, 3, 4, 5, 6, 7, 8, 9, 10, 11, 1] rfl) hf (by omega) (by omega)
                  · replace hf := xif_neg c465 hf
                    refine lv_bipush (v := 10) hx hb dL_isMixed_468 (by decide) ?_
                    refine lv_iload hx hb dL_isMixed_470 (lv_at hl 11 rfl) ?_
                    refine lv_imul hx hb dL_isMixed_472 ?_
                    refine lv_aload_n hx hb dL_isMixed_473 rfl (lv_at hl 4 rfl) ?_
                    refine lv_iconst (v := 2) hx hb dL_isMixed_474 (by decide) ?_
                    obtain ⟨hin, hf⟩ := xrs_f hf
                    refine x_rld hx hb hw (List.mem_cons_of_mem _ (List.mem_cons_of_mem _ List.mem_cons_self)) hin dL_isMixed_475 ?_
                    refine lv_topi (fun v67 ex => ?_)
                    replace hf := hf v67 ex
                    clear ex hin
                    refine lv_icmp_gt (tgt := 514) hx hb dL_isMixed_476 (by decide) (fun c476 => ?_) (fun c476 => ?_)
                    · replace hf := xif_pos c476 hf
                      exact h514 a4 a5 a6 a8 a16 a17 a18 v59 rd1 rd2 rd3 σ _ _ _ nc ns _ _ _ hw (lv_sub hl [2, 3, 4, 5, 6, 7, 8, 9, 10, 11, 1] rfl) hf (by omega) (by omega)
                    · replace hf := xif_neg c476 hf
                      refine lv_bipush (v := 10) hx hb dL_isMixed_479 (by decide) ?_
                      refine lv_iload hx hb dL_isMixed_481 (lv_at hl 1 rfl) ?_
                      refine lv_imul hx hb dL_isMixed_483 ?_
                      refine lv_aload_n hx hb dL_isMixed_484 rfl (lv_at hl 4 rfl) ?_
                      refine lv_iconst (v := 3) hx hb dL_isMixed_485 (by decide) ?_
                      obtain ⟨hin, hf⟩ := xrs_f hf
                      refine x_rld hx hb hw (List.mem_cons_of_mem _ (List.mem_cons_of_mem _ List.mem_cons_self)) hin dL_isMixed_486 ?_
                      refine lv_topi (fun v68 ex => ?_)
                      replace hf := hf v68 ex
                      clear ex hin
                      refine lv_icmp_gt (tgt := 514) hx hb dL_isMixed_487 (by decide) (fun c487 => ?_) (fun c487 => ?_)
                      · replace hf := xif_pos c487 hf
                        exact h514 a4 a5 a6 a8 a16 a17 a18 v59 rd1 rd2 rd3 σ _ _ _ nc ns _ _ _ hw (lv_sub hl [2, 3, 4, 5, 6, 7, 8, 9, 10, 11, 1] rfl) hf (by omega) (by omega)
                      · replace hf := xif_neg c487 hf
                        refine lv_iload hx hb dL_isMixed_490 (lv_at hl 0 rfl) ?_
                        refine lv_bipush (v := 10) hx hb dL_isMixed_492 (by decide) ?_
                        refine lv_iload hx hb dL_isMixed_494 (lv_at hl 5 rfl) ?_
                        refine lv_imul hx hb dL_isMixed_496 ?_
                        refine lv_icmp_lt (tgt := 514) hx hb dL_isMixed_497 (by decide) (fun c497 => ?_) (fun c497 => ?_)
                        · replace hf := xif_pos c497 hf
                          exact h514 a4 a5 a6 a8 a16 a17 a18 v59 rd1 rd2 rd3 σ _ _ _ nc ns _ _ _ hw (lv_sub hl [2, 3, 4, 5, 6, 7, 8, 9, 10, 11, 1] rfl) hf (by omega) (by omega)
                        · replace hf := xif_neg c497 hf
                          refine lv_iload hx hb dL_isMixed_500 (lv_at hl 0 rfl) ?_
                          refine lv_bipush (v := 10) hx hb dL_isMixed_502 (by decide) ?_
                          refine lv_iload hx hb dL_isMixed_504 (lv_at hl 6 rfl) ?_
                          refine lv_imul hx hb dL_isMixed_506 ?_
                          refine lv_icmp_gt (tgt := 514) hx hb dL_isMixed_507 (by decide) (fun c507 => ?_) (fun c507 => ?_)
                          · replace hf := xif_pos c507 hf
                            exact h514 a4 a5 a6 a8 a16 a17 a18 v59 rd1 rd2 rd3 σ _ _ _ nc ns _ _ _ hw (lv_sub hl [2, 3, 4, 5, 6, 7, 8, 9, 10, 11, 1] rfl) hf (by omega) (by omega)
                          · replace hf := xif_neg c507 hf
                            refine lv_iconst (v := 1) hx hb dL_isMixed_510 (by decide) ?_
                            refine lv_goto (tgt := 515) hx hb dL_isMixed_511 (by decide) ?_
                            exact h515 a4 a5 a6 a8 a16 a17 a18 v59 1 rd1 rd2 rd3 σ _ _ _ nc ns _ _ _ hw (lv_sub hl [2, 3, 4, 5, 6, 7, 8, 9, 10, 11, 1] rfl) hf (by omega) (by omega)
          intro a4 a5 a6 a8 a16 a17 rd1 rd2 rd3 σ H locs ls nc ns q1 q2 q3 hw hl hf hnc hns
          rw [fL_isMixed_c378_s] at hf
          refine lv_iload hx hb dL_isMixed_378 (lv_at hl 7 rfl) ?_
          refine lv_iload hx hb dL_isMixed_380 (lv_at hl 8 rfl) ?_
          refine lv_iadd hx hb dL_isMixed_382 ?_
          refine lv_bipush (v := 10) hx hb dL_isMixed_383 (by decide) ?_
          refine lv_icmp_gt (tgt := 577) hx hb dL_isMixed_385 (by decide) (fun c385 => ?_) (fun c385 => ?_)
          · replace hf := xif_pos c385 hf
            obtain ⟨v57, ex⟩ : ∃ y : Int32, y = (a16 + 1) := ⟨_, rfl⟩
            replace hf := xl_f hf v57 ex
            refine lv_iinc (v := v57) (lv' := [(16, .int v57), (1, .ref q1), (2, .ref q2), (3, .ref q3), (4, .int a4), (5, .int a5), (6, .long a6), (8, .long a8), (17, .int a17)]) hx hb dL_isMixed_577 hl (k := 7) rfl (by rw [ex]; rfl) (by decide) rfl (fun ls hl => ?_)
            clear ex
            refine lv_goto (tgt := 368) hx hb dL_isMixed_580 (by decide) ?_
            exact ih368 a4 a5 a6 a8 v57 rd1 rd2 rd3 σ _ _ _ nc ns _ _ _ hw (lv_sub hl [1, 2, 3, 4, 5, 6, 7, 0] rfl) hf (by omega) (by omega)
          · replace hf := xif_neg c385 hf
            refine lv_iconst (v := 0) hx hb dL_isMixed_388 (by decide) ?_
            refine lv_istore (lv' := [(18, .int 0), (1, .ref q1), (2, .ref q2), (3, .ref q3), (4, .int a4), (5, .int a5), (6, .long a6), (8, .long a8), (16, .int a16), (17, .int a17)]) hx hb dL_isMixed_389 hl (by decide) rfl (fun ls hl => ?_)
            exact h391 xFU a4 a5 a6 a8 a16 a17 0 rd1 rd2 rd3 σ _ _ _ nc ns _ _ _ hw (lv_sub hl [1, 2, 3, 4, 5, 6, 7, 8, 9, 0] rfl) hf (by omega) (by omega)
      intro a4 a5 a6 a8 a16 rd1 rd2 rd3 σ H locs ls nc ns q1 q2 q3 hw hl hf hnc hns
      rw [fL_isMixed_c368_s] at hf
      refine lv_iload hx hb dL_isMixed_368 (lv_at hl 7 rfl) ?_
      refine lv_bipush (v := 10) hx hb dL_isMixed_370 (by decide) ?_
      refine lv_icmp_gt (tgt := 583) hx hb dL_isMixed_372 (by decide) (fun c372 => ?_) (fun c372 => ?_)
      · replace hf := xif_pos c372 hf
        refine lv_iconst (v := 1) hx hb dL_isMixed_583 (by decide) ?_
        exact x_Xzretc hx hb hr hlk (xw_drop hw) (by decide) hf (show nc ≤ 47 by omega) (show ns ≤ 276 by omega) dL_isMixed_584
      · replace hf := xif_neg c372 hf
        refine lv_iconst (v := 0) hx hb dL_isMixed_375 (by decide) ?_
        refine lv_istore (lv' := [(17, .int 0), (1, .ref q1), (2, .ref q2), (3, .ref q3), (4, .int a4), (5, .int a5), (6, .long a6), (8, .long a8), (16, .int a16)]) hx hb dL_isMixed_376 hl (by decide) rfl (fun ls hl => ?_)
        exact h378 xFU a4 a5 a6 a8 a16 0 rd1 rd2 rd3 σ _ _ _ nc ns _ _ _ hw (lv_sub hl [1, 2, 3, 4, 5, 6, 7, 8, 0] rfl) hf (by omega) (by omega)
  have h197 : ∀ (n : Nat) (a4 : Int32) (a5 : Int32) (a6 : Int64) (a8 : Int64) (a10 : UInt64) (a12 : UInt64) (a14 : UInt64) (a16 : Int32) (rd1 : (Nat → Int32)) (rd2 : (Nat → Int32)) (rd3 : (Nat → Int32)) (σ : xSt) (H : Heap) (locs : List Loc) (ls : Array Slot) (nc ns : Nat) (q1 q2 q3 : Nat), xw (xPlus E [(q1, xInts E.cA 4 rd1), (q2, xInts E.cA 4 rd2), (q3, xInts E.cA 4 rd3)]) A s.heap s σ H locs → lv_has ls 22 [(0, .ref (E.a 52)), (1, .ref q1), (2, .ref q2), (3, .ref q3), (4, .int a4), (5, .int a5), (6, .long a6), (8, .long a8), (10, .double a10), (12, .double a12), (14, .double a14), (16, .int a16)] → fL_isMixed_c197 n a4 a5 a6 a8 a10 a12 a14 a16 rd1 rd2 rd3 σ = some (o1, o2) → nc + (0 + 6 * n) ≤ 47 → ns + (0 + 36 * n) ≤ 276 → W p l e rmL_isMixed s m args below meth c H locs nc ns (vx_MQ below (xQi E A o1 o2) (xXw A) args s 47 276 A) (F0 m 197 ls []) := by
    intro n197
    induction n197 with
    | zero => intro a4 a5 a6 a8 a10 a12 a14 a16 rd1 rd2 rd3 σ H locs ls nc ns q1 q2 q3 hw hl hf hnc hns; exact nomatch hf
    | succ n197 ih197 =>
      intro a4 a5 a6 a8 a10 a12 a14 a16 rd1 rd2 rd3 σ H locs ls nc ns q1 q2 q3 hw hl hf hnc hns
      rw [fL_isMixed_c197_s] at hf
      refine lv_iload hx hb dL_isMixed_197 (lv_at hl 11 rfl) ?_
      refine lv_iconst (v := 4) hx hb dL_isMixed_199 (by decide) ?_
      refine lv_icmp_ge (tgt := 303) hx hb dL_isMixed_200 (by decide) (fun c200 => ?_) (fun c200 => ?_)
      · replace hf := xif_pos c200 hf
        refine lv_dload hx hb dL_isMixed_303 (lv_at hl 8 rfl) ?_
        refine lv_dconst1 hx hb dL_isMixed_305 ?_
        obtain ⟨hnn, hf⟩ := xnn_e hf
        refine lv_dsub hx hb dL_isMixed_306 (nn_vf hnn) ?_
        clear hnn
        refine lv_topd (fun d34 ex => ?_)
        replace hf := xl_f hf d34 ex
        clear ex
        obtain ⟨hnn, hf⟩ := xnn_e hf
        refine x_mabsd hx hb (hml.trans hl.1.symm) hown (hts (.methodLink RL 243 yJ9_abs_294c1) (by decide +kernel)) (hts (.static yJ9_abs_294c1) (by decide +kernel)) (hts (.initialized "java/lang/Math") (by decide +kernel)) (hts (.code yJ9_abs_294c1 cJ9_abs_294c1 2 (some .double)) (by decide +kernel)) (nn_vf hnn) (Nat.le_of_ble_eq_true rfl) (Nat.le_of_ble_eq_true rfl) dL_isMixed_307 ?_
        clear hnn
        refine lv_topd (fun d35 ex => ?_)
        replace hf := xl_f hf d35 ex
        clear ex
        refine lv_ldc2d hx hb hown (hts (.constantDouble RL 246 (4502148214488346440)) (by decide +kernel)) dL_isMixed_310 ?_
        refine lv_dcmp hx hb dL_isMixed_313 ?_
        refine lv_if_gt (tgt := 363) hx hb dL_isMixed_314 (by decide) (fun c314 => ?_) (fun c314 => ?_)
        · replace hf := xif_pos c314 hf
          refine lv_iconst (v := 0) hx hb dL_isMixed_363 (by decide) ?_
          exact x_Xzretc hx hb hr hlk (xw_drop hw) (by decide) hf (show nc ≤ 47 by omega) (show ns ≤ 276 by omega) dL_isMixed_364
        · replace hf := xif_neg c314 hf
          refine lv_dload hx hb dL_isMixed_317 (lv_at hl 9 rfl) ?_
          refine lv_iload hx hb dL_isMixed_319 (lv_at hl 4 rfl) ?_
          refine lv_i2d hx hb dL_isMixed_321 ?_
          refine lv_ldc2d hx hb hown (hts (.constantDouble RL 248 (4517329193108106637)) (by decide +kernel)) dL_isMixed_322 ?_
          obtain ⟨hnn, hf⟩ := xnn_e hf
          refine lv_dsub hx hb dL_isMixed_325 (nn_vf hnn) ?_
          clear hnn
          refine lv_topd (fun d36 ex => ?_)
          replace hf := xl_f hf d36 ex
          clear ex
          refine lv_dcmp hx hb dL_isMixed_326 ?_
          refine lv_if_lt (tgt := 363) hx hb dL_isMixed_327 (by decide) (fun c327 => ?_) (fun c327 => ?_)
          · replace hf := xif_pos c327 hf
            refine lv_iconst (v := 0) hx hb dL_isMixed_363 (by decide) ?_
            exact x_Xzretc hx hb hr hlk (xw_drop hw) (by decide) hf (show nc ≤ 47 by omega) (show ns ≤ 276 by omega) dL_isMixed_364
          · replace hf := xif_neg c327 hf
            refine lv_dload hx hb dL_isMixed_330 (lv_at hl 9 rfl) ?_
            refine lv_iload hx hb dL_isMixed_332 (lv_at hl 5 rfl) ?_
            refine lv_i2d hx hb dL_isMixed_334 ?_
            refine lv_ldc2d hx hb hown (hts (.constantDouble RL 248 (4517329193108106637)) (by decide +kernel)) dL_isMixed_335 ?_
            obtain ⟨hnn, hf⟩ := xnn_e hf
            refine lv_dadd hx hb dL_isMixed_338 (nn_vf hnn) ?_
            clear hnn
            refine lv_topd (fun d37 ex => ?_)
            replace hf := xl_f hf d37 ex
            clear ex
            refine lv_dcmp hx hb dL_isMixed_339 ?_
            refine lv_if_gt (tgt := 363) hx hb dL_isMixed_340 (by decide) (fun c340 => ?_) (fun c340 => ?_)
            · replace hf := xif_pos c340 hf
              refine lv_iconst (v := 0) hx hb dL_isMixed_363 (by decide) ?_
              exact x_Xzretc hx hb hr hlk (xw_drop hw) (by decide) hf (show nc ≤ 47 by omega) (show ns ≤ 276 by omega) dL_isMixed_364
            · replace hf := xif_neg c340 hf
              refine lv_dload hx hb dL_isMixed_343 (lv_at hl 10 rfl) ?_
              refine lv_lload hx hb dL_isMixed_345 (lv_at hl 6 rfl) ?_
              refine lv_l2d hx hb dL_isMixed_347 ?_
              refine lv_lload hx hb dL_isMixed_348 (lv_at hl 7 rfl) ?_
              refine lv_l2d hx hb dL_isMixed_350 ?_
              obtain ⟨hnn, hf⟩ := xnn_e hf
              refine lv_ddiv hx hb dL_isMixed_351 (nn_vf hnn) ?_
              clear hnn
              refine lv_topd (fun d38 ex => ?_)
              replace hf := xl_f hf d38 ex
              clear ex
              obtain ⟨hnn, hf⟩ := xnn_e hf
              refine lv_dsub hx hb dL_isMixed_352 (nn_vf hnn) ?_
              clear hnn
              refine lv_topd (fun d39 ex => ?_)
              replace hf := xl_f hf d39 ex
              clear ex
              obtain ⟨hnn, hf⟩ := xnn_e hf
              refine x_mabsd hx hb (hml.trans hl.1.symm) hown (hts (.methodLink RL 243 yJ9_abs_294c1) (by decide +kernel)) (hts (.static yJ9_abs_294c1) (by decide +kernel)) (hts (.initialized "java/lang/Math") (by decide +kernel)) (hts (.code yJ9_abs_294c1 cJ9_abs_294c1 2 (some .double)) (by decide +kernel)) (nn_vf hnn) (Nat.le_of_ble_eq_true rfl) (Nat.le_of_ble_eq_true rfl) dL_isMixed_353 ?_
              clear hnn
              refine lv_topd (fun d40 ex => ?_)
              replace hf := xl_f hf d40 ex
              clear ex
              refine lv_ldc2d hx hb hown (hts (.constantDouble RL 250 (4532020583610935537)) (by decide +kernel)) dL_isMixed_356 ?_
              refine lv_dcmp hx hb dL_isMixed_359 ?_
              refine lv_if_le (tgt := 365) hx hb dL_isMixed_360 (by decide) (fun c360 => ?_) (fun c360 => ?_)
              · replace hf := xif_pos c360 hf
                refine lv_iconst (v := 0) hx hb dL_isMixed_365 (by decide) ?_
                refine lv_istore (lv' := [(16, .int 0), (0, .ref (E.a 52)), (1, .ref q1), (2, .ref q2), (3, .ref q3), (4, .int a4), (5, .int a5), (6, .long a6), (8, .long a8), (10, .double a10), (12, .double a12), (14, .double a14)]) hx hb dL_isMixed_366 hl (by decide) rfl (fun ls hl => ?_)
                exact h368 xFU a4 a5 a6 a8 0 rd1 rd2 rd3 σ _ _ _ nc ns _ _ _ hw (lv_sub hl [2, 3, 4, 5, 6, 7, 8, 0] rfl) hf (by omega) (by omega)
              · replace hf := xif_neg c360 hf
                refine lv_iconst (v := 0) hx hb dL_isMixed_363 (by decide) ?_
                exact x_Xzretc hx hb hr hlk (xw_drop hw) (by decide) hf (show nc ≤ 47 by omega) (show ns ≤ 276 by omega) dL_isMixed_364
      · replace hf := xif_neg c200 hf
        refine lv_aload_n hx hb dL_isMixed_203 rfl (lv_at hl 0 rfl) ?_
        refine x_getr hx hb hw (cL52 (xPlus_LE hE)) (own := RL) (ref := RL) (C := RL) (T := TL) (N := 10) hts hiL hown rfl 0 (by decide) hk10 (fun _ h9 => h9) rfl dL_isMixed_204 ?_
        refine lv_iload hx hb dL_isMixed_207 (lv_at hl 4 rfl) ?_
        refine lv_iload hx hb dL_isMixed_209 (lv_at hl 5 rfl) ?_
        refine lv_iload hx hb dL_isMixed_211 (lv_at hl 11 rfl) ?_
        refine lv_iconst (v := 0) hx hb dL_isMixed_213 (by decide) ?_
        obtain ⟨r41, τ9, hcl, hf⟩ := xco_g hf
        refine x_tcallo (vx_runV (As := [.int a4, .int a5, .int a16, .int 0]) (rest := []) ⟨hx, hb, hml, hown, hts⟩ (mX11_mixShare hl0 (E := xCut (xPlus E [(q1, xInts E.cA 4 rd1), (q2, xInts E.cA 4 rd2), (q3, xInts E.cA 4 rd3)]) σ) rfl a4 a5 a16 0 σ (.inl r41) τ9 hcl H.size) (cwV 4 hts gL_isMixed_X11_mixShare rfl rfl rfl (by decide +kernel) ⟨Nat.le_of_ble_eq_true rfl, Nat.le_of_ble_eq_true rfl⟩) (x_preV _ (xw_cut (xPlus_LE hE) hw) hA hG (cX0 (E := xCut (xPlus E [(q1, xInts E.cA 4 rd1), (q2, xInts E.cA 4 rd2), (q3, xInts E.cA 4 rd3)]) σ) rfl) rfl) rfl rfl hl.1 rfl (lv_room (Nat.le_of_ble_eq_true rfl)) dL_isMixed_214 ⟨show nc + 3 ≤ 47 by omega, show ns + 18 ≤ 276 by omega⟩) (xw_cut (xPlus_LE hE) hw) hA (fun H locs hw => ?_)
        obtain ⟨σ42, eρ, hw⟩ := xw_unc2 (xPlus_LE hE) hw
        replace hf := hf σ42 eρ
        clear eρ hcl
        refine lv_i2d hx hb dL_isMixed_217 ?_
        refine lv_aload_n hx hb dL_isMixed_218 rfl (lv_at hl 0 rfl) ?_
        refine x_getr hx hb hw (cL52 (xPlus_LE hE)) (own := RL) (ref := RL) (C := RL) (T := TL) (N := 10) hts hiL hown rfl 0 (by decide) hk10 (fun _ h9 => h9) rfl dL_isMixed_219 ?_
        refine lv_iload hx hb dL_isMixed_222 (lv_at hl 4 rfl) ?_
        refine lv_iload hx hb dL_isMixed_224 (lv_at hl 5 rfl) ?_
        refine lv_iload hx hb dL_isMixed_226 (lv_at hl 11 rfl) ?_
        refine lv_iconst (v := 1) hx hb dL_isMixed_228 (by decide) ?_
        obtain ⟨r43, τ9, hcl, hf⟩ := xco_g hf
        refine x_tcallo (vx_runV (As := [.int a4, .int a5, .int a16, .int 1]) (rest := [.double (FP.i2d r41)]) ⟨hx, hb, hml, hown, hts⟩ (mX11_mixShare hl0 (E := xCut (xPlus E [(q1, xInts E.cA 4 rd1), (q2, xInts E.cA 4 rd2), (q3, xInts E.cA 4 rd3)]) σ42) rfl a4 a5 a16 1 σ42 (.inl r43) τ9 hcl H.size) (cwV 4 hts gL_isMixed_X11_mixShare rfl rfl rfl (by decide +kernel) ⟨Nat.le_of_ble_eq_true rfl, Nat.le_of_ble_eq_true rfl⟩) (x_preV _ (xw_cut (xPlus_LE hE) hw) hA hG (cX0 (E := xCut (xPlus E [(q1, xInts E.cA 4 rd1), (q2, xInts E.cA 4 rd2), (q3, xInts E.cA 4 rd3)]) σ42) rfl) rfl) rfl rfl hl.1 rfl (lv_room (Nat.le_of_ble_eq_true rfl)) dL_isMixed_229 ⟨show (nc + 3) + 3 ≤ 47 by omega, show (ns + 18) + 18 ≤ 276 by omega⟩) (xw_cut (xPlus_LE hE) hw) hA (fun H locs hw => ?_)
        obtain ⟨σ44, eρ, hw⟩ := xw_unc2 (xPlus_LE hE) hw
        replace hf := hf σ44 eρ
        clear eρ hcl
        refine lv_i2d hx hb dL_isMixed_232 ?_
        obtain ⟨hnn, hf⟩ := xnn_e hf
        refine lv_ddiv hx hb dL_isMixed_233 (nn_vf hnn) ?_
        clear hnn
        refine lv_topd (fun d45 ex => ?_)
        replace hf := xl_f hf d45 ex
        clear ex
        refine lv_dstore (lv' := [(17, .double d45), (0, .ref (E.a 52)), (1, .ref q1), (2, .ref q2), (3, .ref q3), (4, .int a4), (5, .int a5), (6, .long a6), (8, .long a8), (10, .double a10), (12, .double a12), (14, .double a14), (16, .int a16)]) hx hb dL_isMixed_234 hl (by decide) rfl (fun ls hl => ?_)
        refine lv_dload hx hb dL_isMixed_236 (lv_at hl 0 rfl) ?_
        refine lv_dconst0 hx hb dL_isMixed_238 ?_
        refine lv_dcmp hx hb dL_isMixed_239 ?_
        refine lv_if_lt (tgt := 262) hx hb dL_isMixed_240 (by decide) (fun c240 => ?_) (fun c240 => ?_)
        · replace hf := xif_pos c240 hf
          refine lv_iconst (v := 0) hx hb dL_isMixed_262 (by decide) ?_
          exact x_Xzretc hx hb hr hlk (xw_drop hw) (by decide) hf (show ((nc + 3) + 3) ≤ 47 by omega) (show ((ns + 18) + 18) ≤ 276 by omega) dL_isMixed_263
        · replace hf := xif_neg c240 hf
          refine lv_dload hx hb dL_isMixed_243 (lv_at hl 0 rfl) ?_
          refine lv_aload_n hx hb dL_isMixed_245 rfl (lv_at hl 4 rfl) ?_
          refine lv_iload hx hb dL_isMixed_246 (lv_at hl 12 rfl) ?_
          obtain ⟨hin, hf⟩ := xrs_f hf
          refine x_rld hx hb hw (List.mem_cons_of_mem _ (List.mem_cons_of_mem _ List.mem_cons_self)) hin dL_isMixed_248 ?_
          refine lv_topi (fun v46 ex => ?_)
          replace hf := hf v46 ex
          clear ex hin
          refine lv_i2d hx hb dL_isMixed_249 ?_
          refine lv_ldc2d hx hb hown (hts (.constantDouble RL 239 (4636737291354636288)) (by decide +kernel)) dL_isMixed_250 ?_
          obtain ⟨hnn, hf⟩ := xnn_e hf
          refine lv_ddiv hx hb dL_isMixed_253 (nn_vf hnn) ?_
          clear hnn
          refine lv_topd (fun d47 ex => ?_)
          replace hf := xl_f hf d47 ex
          clear ex
          refine lv_ldc2d hx hb hown (hts (.constantDouble RL 241 (4472406533629990549)) (by decide +kernel)) dL_isMixed_254 ?_
          obtain ⟨hnn, hf⟩ := xnn_e hf
          refine lv_dadd hx hb dL_isMixed_257 (nn_vf hnn) ?_
          clear hnn
          refine lv_topd (fun d48 ex => ?_)
          replace hf := xl_f hf d48 ex
          clear ex
          refine lv_dcmp hx hb dL_isMixed_258 ?_
          refine lv_if_le (tgt := 264) hx hb dL_isMixed_259 (by decide) (fun c259 => ?_) (fun c259 => ?_)
          · replace hf := xif_pos c259 hf
            refine lv_dload hx hb dL_isMixed_264 (lv_at hl 9 rfl) ?_
            refine lv_dload hx hb dL_isMixed_266 (lv_at hl 0 rfl) ?_
            obtain ⟨hnn, hf⟩ := xnn_e hf
            refine lv_dadd hx hb dL_isMixed_268 (nn_vf hnn) ?_
            clear hnn
            refine lv_topd (fun d49 ex => ?_)
            replace hf := xl_f hf d49 ex
            clear ex
            refine lv_dstore (lv' := [(10, .double d49), (17, .double d45), (0, .ref (E.a 52)), (1, .ref q1), (2, .ref q2), (3, .ref q3), (4, .int a4), (5, .int a5), (6, .long a6), (8, .long a8), (12, .double a12), (14, .double a14), (16, .int a16)]) hx hb dL_isMixed_269 hl (by decide) rfl (fun ls hl => ?_)
            refine lv_dload hx hb dL_isMixed_271 (lv_at hl 10 rfl) ?_
            refine lv_dload hx hb dL_isMixed_273 (lv_at hl 1 rfl) ?_
            refine lv_aload_n hx hb dL_isMixed_275 rfl (lv_at hl 3 rfl) ?_
            refine lv_iload hx hb dL_isMixed_276 (lv_at hl 12 rfl) ?_
            obtain ⟨hin, hf⟩ := xrs_f hf
            refine x_rld hx hb hw List.mem_cons_self hin dL_isMixed_278 ?_
            refine lv_topi (fun v50 ex => ?_)
            replace hf := hf v50 ex
            clear ex hin
            refine lv_i2d hx hb dL_isMixed_279 ?_
            obtain ⟨hnn, hf⟩ := xnn_e hf
            refine lv_dmul hx hb dL_isMixed_280 (nn_vf hnn) ?_
            clear hnn
            refine lv_topd (fun d51 ex => ?_)
            replace hf := xl_f hf d51 ex
            clear ex
            obtain ⟨hnn, hf⟩ := xnn_e hf
            refine lv_dadd hx hb dL_isMixed_281 (nn_vf hnn) ?_
            clear hnn
            refine lv_topd (fun d52 ex => ?_)
            replace hf := xl_f hf d52 ex
            clear ex
            refine lv_dstore (lv' := [(12, .double d52), (10, .double d49), (17, .double d45), (0, .ref (E.a 52)), (1, .ref q1), (2, .ref q2), (3, .ref q3), (4, .int a4), (5, .int a5), (6, .long a6), (8, .long a8), (14, .double a14), (16, .int a16)]) hx hb dL_isMixed_282 hl (by decide) rfl (fun ls hl => ?_)
            refine lv_dload hx hb dL_isMixed_284 (lv_at hl 11 rfl) ?_
            refine lv_dload hx hb dL_isMixed_286 (lv_at hl 2 rfl) ?_
            refine lv_aload_n hx hb dL_isMixed_288 rfl (lv_at hl 5 rfl) ?_
            refine lv_iload hx hb dL_isMixed_289 (lv_at hl 12 rfl) ?_
            obtain ⟨hin, hf⟩ := xrs_f hf
            refine x_rld hx hb hw (List.mem_cons_of_mem _ List.mem_cons_self) hin dL_isMixed_291 ?_
            refine lv_topi (fun v53 ex => ?_)
            replace hf := hf v53 ex
            clear ex hin
            refine lv_i2d hx hb dL_isMixed_292 ?_
            obtain ⟨hnn, hf⟩ := xnn_e hf
            refine lv_dmul hx hb dL_isMixed_293 (nn_vf hnn) ?_
            clear hnn
            refine lv_topd (fun d54 ex => ?_)
            replace hf := xl_f hf d54 ex
            clear ex
            obtain ⟨hnn, hf⟩ := xnn_e hf
            refine lv_dadd hx hb dL_isMixed_294 (nn_vf hnn) ?_
            clear hnn
            refine lv_topd (fun d55 ex => ?_)
            replace hf := xl_f hf d55 ex
            clear ex
            refine lv_dstore (lv' := [(14, .double d55), (12, .double d52), (10, .double d49), (17, .double d45), (0, .ref (E.a 52)), (1, .ref q1), (2, .ref q2), (3, .ref q3), (4, .int a4), (5, .int a5), (6, .long a6), (8, .long a8), (16, .int a16)]) hx hb dL_isMixed_295 hl (by decide) rfl (fun ls hl => ?_)
            obtain ⟨v56, ex⟩ : ∃ y : Int32, y = (a16 + 1) := ⟨_, rfl⟩
            replace hf := xl_f hf v56 ex
            refine lv_iinc (v := v56) (lv' := [(16, .int v56), (14, .double d55), (12, .double d52), (10, .double d49), (17, .double d45), (0, .ref (E.a 52)), (1, .ref q1), (2, .ref q2), (3, .ref q3), (4, .int a4), (5, .int a5), (6, .long a6), (8, .long a8)]) hx hb dL_isMixed_297 hl (k := 12) rfl (by rw [ex]; rfl) (by decide) rfl (fun ls hl => ?_)
            clear ex
            refine lv_goto (tgt := 197) hx hb dL_isMixed_300 (by decide) ?_
            exact ih197 a4 a5 a6 a8 d49 d52 d55 v56 rd1 rd2 rd3 σ44 _ _ _ ((nc + 3) + 3) ((ns + 18) + 18) _ _ _ hw (lv_sub hl [5, 6, 7, 8, 9, 10, 11, 12, 3, 2, 1, 0] rfl) hf (by omega) (by omega)
          · replace hf := xif_neg c259 hf
            refine lv_iconst (v := 0) hx hb dL_isMixed_262 (by decide) ?_
            exact x_Xzretc hx hb hr hlk (xw_drop hw) (by decide) hf (show ((nc + 3) + 3) ≤ 47 by omega) (show ((ns + 18) + 18) ≤ 276 by omega) dL_isMixed_263
  have h15 : ∀ (n : Nat) (a4 : Int32) (rd1 : (Nat → Int32)) (rd2 : (Nat → Int32)) (rd3 : (Nat → Int32)) (σ : xSt) (H : Heap) (locs : List Loc) (ls : Array Slot) (nc ns : Nat) (q1 q2 q3 : Nat), xw (xPlus E [(q1, xInts E.cA 4 rd1), (q2, xInts E.cA 4 rd2), (q3, xInts E.cA 4 rd3)]) A s.heap s σ H locs → lv_has ls 22 [(0, .ref (E.a 52)), (1, .ref q1), (2, .ref q2), (3, .ref q3), (4, .int a4)] → fL_isMixed_c15 n a4 rd1 rd2 rd3 σ = some (o1, o2) → nc + (34 + 2 * n) ≤ 47 → ns + (204 + 12 * n) ≤ 276 → W p l e rmL_isMixed s m args below meth c H locs nc ns (vx_MQ below (xQi E A o1 o2) (xXw A) args s 47 276 A) (F0 m 15 ls []) := by
    intro n15
    induction n15 with
    | zero => intro a4 rd1 rd2 rd3 σ H locs ls nc ns q1 q2 q3 hw hl hf hnc hns; exact nomatch hf
    | succ n15 ih15 =>
      have h79 : ∀ (a4 : Int32) (t0 : Int32) (t1 : Int32) (rd1 : (Nat → Int32)) (rd2 : (Nat → Int32)) (rd3 : (Nat → Int32)) (σ : xSt) (H : Heap) (locs : List Loc) (ls : Array Slot) (nc ns : Nat) (q1 q2 q3 : Nat), xw (xPlus E [(q1, xInts E.cA 4 rd1), (q2, xInts E.cA 4 rd2), (q3, xInts E.cA 4 rd3)]) A s.heap s σ H locs → lv_has ls 22 [(0, .ref (E.a 52)), (1, .ref q1), (2, .ref q2), (3, .ref q3), (4, .int a4)] → fL_isMixed_c79 (fL_isMixed_c15 n15) a4 t0 t1 rd1 rd2 rd3 σ = some (o1, o2) → nc + (36 + 2 * n15) ≤ 47 → ns + (216 + 12 * n15) ≤ 276 → W p l e rmL_isMixed s m args below meth c H locs nc ns (vx_MQ below (xQi E A o1 o2) (xXw A) args s 47 276 A) (F0 m 79 ls [.int t0, .int t1, .ref q3]) := by
        intro a4 t0 t1 rd1 rd2 rd3 σ H locs ls nc ns q1 q2 q3 hw hl hf hnc hns
        unfold fL_isMixed_c79 at hf
        obtain ⟨hin, hf⟩ := xbs_e hf
        refine x_rst hx hb hw (k := 2) rfl hin dL_isMixed_79 (fun H locs hw => ?_)
        obtain ⟨rd27, ex⟩ : ∃ r9 : Nat → Int32, r9 = upd rd3 (t1).toNatClampNeg t0 := ⟨_, rfl⟩
        replace hf := xl_f hf rd27 ex
        have hw : xw (xPlus E [(q1, xInts E.cA 4 rd1), (q2, xInts E.cA 4 rd2), (q3, xInts E.cA 4 rd27)]) A s.heap s σ H locs := by rw [ex]; exact hw
        clear ex hin
        refine lv_aload_n hx hb dL_isMixed_80 rfl (lv_at hl 0 rfl) ?_
        refine x_getr hx hb hw (cL52 (xPlus_LE hE)) (own := RL) (ref := RL) (C := RL) (T := TL) (N := 10) hts hiL hown rfl 0 (by decide) hk10 (fun _ h9 => h9) rfl dL_isMixed_81 ?_
        refine lv_iload hx hb dL_isMixed_84 (lv_at hl 4 rfl) ?_
        refine lv_aload_n hx hb dL_isMixed_86 rfl (lv_at hl 1 rfl) ?_
        refine lv_iload hx hb dL_isMixed_87 (lv_at hl 4 rfl) ?_
        obtain ⟨hin, hf⟩ := xrs_f hf
        refine x_rld hx hb hw List.mem_cons_self hin dL_isMixed_89 ?_
        refine lv_topi (fun v28 ex => ?_)
        replace hf := hf v28 ex
        clear ex hin
        refine lv_aload_n hx hb dL_isMixed_90 rfl (lv_at hl 2 rfl) ?_
        refine lv_iload hx hb dL_isMixed_91 (lv_at hl 4 rfl) ?_
        obtain ⟨hin, hf⟩ := xrs_f hf
        refine x_rld hx hb hw (List.mem_cons_of_mem _ List.mem_cons_self) hin dL_isMixed_93 ?_
        refine lv_topi (fun v29 ex => ?_)
        replace hf := hf v29 ex
        clear ex hin
        refine lv_aload_n hx hb dL_isMixed_94 rfl (lv_at hl 3 rfl) ?_
        refine lv_iload hx hb dL_isMixed_95 (lv_at hl 4 rfl) ?_
        obtain ⟨hin, hf⟩ := xrs_f hf
        refine x_rld hx hb hw (List.mem_cons_of_mem _ (List.mem_cons_of_mem _ List.mem_cons_self)) hin dL_isMixed_97 ?_
        refine lv_topi (fun v30 ex => ?_)
        replace hf := hf v30 ex
        clear ex hin
        obtain ⟨r31, τ9, hcl, hf⟩ := xco_g hf
        refine x_tcallo (vx_runV (As := [.int a4, .int v28, .int v29, .int v30]) (rest := []) ⟨hx, hb, hml, hown, hts⟩ (mX11_setFlour hl0 (E := xCut (xPlus E [(q1, xInts E.cA 4 rd1), (q2, xInts E.cA 4 rd2), (q3, xInts E.cA 4 rd27)]) σ) rfl a4 v28 v29 v30 σ (.inl r31) τ9 hcl H.size) (cwV 4 hts gL_isMixed_X11_setFlour rfl rfl rfl (by decide +kernel) ⟨Nat.le_of_ble_eq_true rfl, Nat.le_of_ble_eq_true rfl⟩) (x_preV _ (xw_cut (xPlus_LE hE) hw) hA hG (cX0 (E := xCut (xPlus E [(q1, xInts E.cA 4 rd1), (q2, xInts E.cA 4 rd2), (q3, xInts E.cA 4 rd27)]) σ) rfl) rfl) rfl rfl hl.1 rfl (lv_room (Nat.le_of_ble_eq_true rfl)) dL_isMixed_98 ⟨show nc + 2 ≤ 47 by omega, show ns + 12 ≤ 276 by omega⟩) (xw_cut (xPlus_LE hE) hw) hA (fun H locs hw => ?_)
        obtain ⟨σ32, eρ, hw⟩ := xw_unc2 (xPlus_LE hE) hw
        replace hf := hf σ32 eρ
        clear eρ hcl
        refine lv_bipush (v := 50) hx hb dL_isMixed_101 (by decide) ?_
        refine lv_icmp_eq (tgt := 108) hx hb dL_isMixed_103 (by decide) (fun c103 => ?_) (fun c103 => ?_)
        · replace hf := xif_pos c103 hf
          obtain ⟨v33, ex⟩ : ∃ y : Int32, y = (a4 + 1) := ⟨_, rfl⟩
          replace hf := xl_f hf v33 ex
          refine lv_iinc (v := v33) (lv' := [(4, .int v33), (0, .ref (E.a 52)), (1, .ref q1), (2, .ref q2), (3, .ref q3)]) hx hb dL_isMixed_108 hl (k := 4) rfl (by rw [ex]; rfl) (by decide) rfl (fun ls hl => ?_)
          clear ex
          refine lv_goto (tgt := 15) hx hb dL_isMixed_111 (by decide) ?_
          exact ih15 v33 rd1 rd2 rd27 σ32 _ _ _ (nc + 2) (ns + 12) _ _ _ hw (lv_sub hl [1, 2, 3, 4, 0] rfl) hf (by omega) (by omega)
        · replace hf := xif_neg c103 hf
          refine lv_iconst (v := 0) hx hb dL_isMixed_106 (by decide) ?_
          exact x_Xzretc hx hb hr hlk (xw_drop hw) (by decide) hf (show (nc + 2) ≤ 47 by omega) (show (ns + 12) ≤ 276 by omega) dL_isMixed_107
      intro a4 rd1 rd2 rd3 σ H locs ls nc ns q1 q2 q3 hw hl hf hnc hns
      rw [fL_isMixed_c15_s] at hf
      refine lv_iload hx hb dL_isMixed_15 (lv_at hl 4 rfl) ?_
      refine lv_iconst (v := 4) hx hb dL_isMixed_17 (by decide) ?_
      refine lv_icmp_ge (tgt := 114) hx hb dL_isMixed_18 (by decide) (fun c18 => ?_) (fun c18 => ?_)
      · replace hf := xif_pos c18 hf
        refine lv_aload_n hx hb dL_isMixed_114 rfl (lv_at hl 0 rfl) ?_
        refine x_getr hx hb hw (cL52 (xPlus_LE hE)) (own := RL) (ref := RL) (C := RL) (T := TL) (N := 10) hts hiL hown rfl 1 (by decide) hk34 (fun _ h9 => h9) rfl dL_isMixed_115 ?_
        refine lv_sipush (v := 150) hx hb dL_isMixed_118 (by decide) ?_
        obtain ⟨r1, σ2, hcl, hf⟩ := xc2_f hf
        refine x_callLi (va_runV (As := [.int 150]) (rest := []) ⟨hx, hb, hml, hown, hts⟩ (mX12_next hl0 (xPlus_LE hE) 150 σ r1 σ2 hcl H.size) (cwV 1 hts gL_isMixed_X12_next rfl rfl rfl (by decide +kernel) ⟨Nat.le_of_ble_eq_true rfl, Nat.le_of_ble_eq_true rfl⟩) (x_preLV _ hw hA hGL (cL53 (xPlus_LE hE)) rfl) rfl rfl hl.1 rfl (lv_room (Nat.le_of_ble_eq_true rfl)) dL_isMixed_121 ⟨show nc + 0 ≤ 47 by omega, show ns + 0 ≤ 276 by omega⟩) hw hA (fun H locs hw => ?_)
        clear hcl
        refine lv_istore (lv' := [(4, .int r1), (0, .ref (E.a 52)), (1, .ref q1), (2, .ref q2), (3, .ref q3)]) hx hb dL_isMixed_124 hl (by decide) rfl (fun ls hl => ?_)
        refine lv_iload hx hb dL_isMixed_126 (lv_at hl 0 rfl) ?_
        refine lv_aload_n hx hb dL_isMixed_128 rfl (lv_at hl 1 rfl) ?_
        refine x_getr hx hb hw (cL52 (xPlus_LE hE)) (own := RL) (ref := RL) (C := RL) (T := TL) (N := 10) hts hiL hown rfl 1 (by decide) hk34 (fun _ h9 => h9) rfl dL_isMixed_129 ?_
        refine lv_bipush (v := 50) hx hb dL_isMixed_132 (by decide) ?_
        obtain ⟨r3, σ4, hcl, hf⟩ := xc2_f hf
        refine x_callLi (va_runV (As := [.int 50]) (rest := [.int r1]) ⟨hx, hb, hml, hown, hts⟩ (mX12_next hl0 (xPlus_LE hE) 50 σ2 r3 σ4 hcl H.size) (cwV 1 hts gL_isMixed_X12_next rfl rfl rfl (by decide +kernel) ⟨Nat.le_of_ble_eq_true rfl, Nat.le_of_ble_eq_true rfl⟩) (x_preLV _ hw hA hGL (cL53 (xPlus_LE hE)) rfl) rfl rfl hl.1 rfl (lv_room (Nat.le_of_ble_eq_true rfl)) dL_isMixed_134 ⟨show (nc + 0) + 0 ≤ 47 by omega, show (ns + 0) + 0 ≤ 276 by omega⟩) hw hA (fun H locs hw => ?_)
        clear hcl
        refine lv_iadd hx hb dL_isMixed_137 ?_
        refine lv_topi (fun v5 ex => ?_)
        replace hf := xl_f hf v5 ex
        clear ex
        refine lv_istore (lv' := [(5, .int v5), (4, .int r1), (0, .ref (E.a 52)), (1, .ref q1), (2, .ref q2), (3, .ref q3)]) hx hb dL_isMixed_138 hl (by decide) rfl (fun ls hl => ?_)
        refine lv_aload_n hx hb dL_isMixed_140 rfl (lv_at hl 2 rfl) ?_
        refine x_getr hx hb hw (cL52 (xPlus_LE hE)) (own := RL) (ref := RL) (C := RL) (T := TL) (N := 10) hts hiL hown rfl 0 (by decide) hk10 (fun _ h9 => h9) rfl dL_isMixed_141 ?_
        refine lv_iload hx hb dL_isMixed_144 (lv_at hl 1 rfl) ?_
        refine lv_iload hx hb dL_isMixed_146 (lv_at hl 0 rfl) ?_
        refine lv_iconst (v := 0) hx hb dL_isMixed_148 (by decide) ?_
        rcases xtr_f hf with ⟨r6, τ9, hcl, hf⟩ | ⟨τ9, hcl, hf⟩
        · refine x_tcallo (vx_runV (As := [.int r1, .int v5, .int 0]) (rest := []) ⟨hx, hb, hml, hown, hts⟩ (mX11_mixCost hl0 (E := xCut (xPlus E [(q1, xInts E.cA 4 rd1), (q2, xInts E.cA 4 rd2), (q3, xInts E.cA 4 rd3)]) σ4) rfl r1 v5 0 σ4 (.inl r6) τ9 hcl H.size) (cwV 3 hts gL_isMixed_X11_mixCost rfl rfl rfl (by decide +kernel) ⟨Nat.le_of_ble_eq_true rfl, Nat.le_of_ble_eq_true rfl⟩) (x_preV _ (xw_cut (xPlus_LE hE) hw) hA hG (cX0 (E := xCut (xPlus E [(q1, xInts E.cA 4 rd1), (q2, xInts E.cA 4 rd2), (q3, xInts E.cA 4 rd3)]) σ4) rfl) rfl) rfl rfl hl.1 rfl (lv_room (Nat.le_of_ble_eq_true rfl)) dL_isMixed_149 ⟨show ((nc + 0) + 0) + 2 ≤ 47 by omega, show ((ns + 0) + 0) + 12 ≤ 276 by omega⟩) (xw_cut (xPlus_LE hE) hw) hA (fun H locs hw => ?_)
          obtain ⟨σ7, eρ, hw⟩ := xw_unc2 (xPlus_LE hE) hw
          replace hf := hf σ7 eρ
          clear eρ hcl
          refine lv_i2l hx hb dL_isMixed_152 rfl ?_
          refine lv_topl (fun v8 ex => ?_)
          replace hf := xl_f hf v8 ex
          clear ex
          refine lv_lstore (lv' := [(6, .long v8), (5, .int v5), (4, .int r1), (0, .ref (E.a 52)), (1, .ref q1), (2, .ref q2), (3, .ref q3)]) hx hb dL_isMixed_153 hl (by decide) rfl (fun ls hl => ?_)
          refine lv_goto (tgt := 170) hx hb dL_isMixed_155 (by decide) ?_
          refine lv_aload_n hx hb dL_isMixed_170 rfl (lv_at hl 3 rfl) ?_
          refine x_getr hx hb hw (cL52 (xPlus_LE hE)) (own := RL) (ref := RL) (C := RL) (T := TL) (N := 10) hts hiL hown rfl 0 (by decide) hk10 (fun _ h9 => h9) rfl dL_isMixed_171 ?_
          refine lv_iload hx hb dL_isMixed_174 (lv_at hl 2 rfl) ?_
          refine lv_iload hx hb dL_isMixed_176 (lv_at hl 1 rfl) ?_
          refine lv_iconst (v := 1) hx hb dL_isMixed_178 (by decide) ?_
          obtain ⟨r9, τ9, hcl, hf⟩ := xco_g hf
          refine x_tcallo (vx_runV (As := [.int r1, .int v5, .int 1]) (rest := []) ⟨hx, hb, hml, hown, hts⟩ (mX11_mixCost hl0 (E := xCut (xPlus E [(q1, xInts E.cA 4 rd1), (q2, xInts E.cA 4 rd2), (q3, xInts E.cA 4 rd3)]) σ7) rfl r1 v5 1 σ7 (.inl r9) τ9 hcl H.size) (cwV 3 hts gL_isMixed_X11_mixCost rfl rfl rfl (by decide +kernel) ⟨Nat.le_of_ble_eq_true rfl, Nat.le_of_ble_eq_true rfl⟩) (x_preV _ (xw_cut (xPlus_LE hE) hw) hA hG (cX0 (E := xCut (xPlus E [(q1, xInts E.cA 4 rd1), (q2, xInts E.cA 4 rd2), (q3, xInts E.cA 4 rd3)]) σ7) rfl) rfl) rfl rfl hl.1 rfl (lv_room (Nat.le_of_ble_eq_true rfl)) dL_isMixed_179 ⟨show (((nc + 0) + 0) + 2) + 2 ≤ 47 by omega, show (((ns + 0) + 0) + 12) + 12 ≤ 276 by omega⟩) (xw_cut (xPlus_LE hE) hw) hA (fun H locs hw => ?_)
          obtain ⟨σ10, eρ, hw⟩ := xw_unc2 (xPlus_LE hE) hw
          replace hf := hf σ10 eρ
          clear eρ hcl
          refine lv_i2l hx hb dL_isMixed_182 rfl ?_
          refine lv_topl (fun v11 ex => ?_)
          replace hf := xl_f hf v11 ex
          clear ex
          refine lv_lstore (lv' := [(8, .long v11), (6, .long v8), (5, .int v5), (4, .int r1), (0, .ref (E.a 52)), (1, .ref q1), (2, .ref q2), (3, .ref q3)]) hx hb dL_isMixed_183 hl (by decide) rfl (fun ls hl => ?_)
          refine lv_dconst0 hx hb dL_isMixed_185 ?_
          refine lv_topd (fun v12 ex => ?_)
          replace hf := xl_f hf v12 ex
          clear ex
          refine lv_dstore (lv' := [(10, .double v12), (8, .long v11), (6, .long v8), (5, .int v5), (4, .int r1), (0, .ref (E.a 52)), (1, .ref q1), (2, .ref q2), (3, .ref q3)]) hx hb dL_isMixed_186 hl (by decide) rfl (fun ls hl => ?_)
          refine lv_dconst0 hx hb dL_isMixed_188 ?_
          refine lv_topd (fun v13 ex => ?_)
          replace hf := xl_f hf v13 ex
          clear ex
          refine lv_dstore (lv' := [(12, .double v13), (10, .double v12), (8, .long v11), (6, .long v8), (5, .int v5), (4, .int r1), (0, .ref (E.a 52)), (1, .ref q1), (2, .ref q2), (3, .ref q3)]) hx hb dL_isMixed_189 hl (by decide) rfl (fun ls hl => ?_)
          refine lv_dconst0 hx hb dL_isMixed_191 ?_
          refine lv_topd (fun v14 ex => ?_)
          replace hf := xl_f hf v14 ex
          clear ex
          refine lv_dstore (lv' := [(14, .double v14), (12, .double v13), (10, .double v12), (8, .long v11), (6, .long v8), (5, .int v5), (4, .int r1), (0, .ref (E.a 52)), (1, .ref q1), (2, .ref q2), (3, .ref q3)]) hx hb dL_isMixed_192 hl (by decide) rfl (fun ls hl => ?_)
          refine lv_iconst (v := 0) hx hb dL_isMixed_194 (by decide) ?_
          refine lv_istore (lv' := [(16, .int 0), (14, .double v14), (12, .double v13), (10, .double v12), (8, .long v11), (6, .long v8), (5, .int v5), (4, .int r1), (0, .ref (E.a 52)), (1, .ref q1), (2, .ref q2), (3, .ref q3)]) hx hb dL_isMixed_195 hl (by decide) rfl (fun ls hl => ?_)
          exact h197 xF5 r1 v5 v8 v11 v12 v13 v14 0 rd1 rd2 rd3 σ10 _ _ _ ((((nc + 0) + 0) + 2) + 2) ((((ns + 0) + 0) + 12) + 12) _ _ _ hw (lv_sub hl [8, 9, 10, 11, 7, 6, 5, 4, 3, 2, 1, 0] rfl) hf (by omega) (by omega)
        · refine x_tcalli (vx_runV (As := [.int r1, .int v5, .int 0]) (rest := []) ⟨hx, hb, hml, hown, hts⟩ (mX11_mixCost hl0 (E := xCut (xPlus E [(q1, xInts E.cA 4 rd1), (q2, xInts E.cA 4 rd2), (q3, xInts E.cA 4 rd3)]) σ4) rfl r1 v5 0 σ4 (.inr 3) τ9 hcl H.size) (cwV 3 hts gL_isMixed_X11_mixCost rfl rfl rfl (by decide +kernel) ⟨Nat.le_of_ble_eq_true rfl, Nat.le_of_ble_eq_true rfl⟩) (x_preV _ (xw_cut (xPlus_LE hE) hw) hA hG (cX0 (E := xCut (xPlus E [(q1, xInts E.cA 4 rd1), (q2, xInts E.cA 4 rd2), (q3, xInts E.cA 4 rd3)]) σ4) rfl) rfl) rfl rfl hl.1 rfl (lv_room (Nat.le_of_ble_eq_true rfl)) dL_isMixed_149 ⟨show ((nc + 0) + 0) + 2 ≤ 47 by omega, show ((ns + 0) + 0) + 12 ≤ 276 by omega⟩) (xw_cut (xPlus_LE hE) hw) hA (fun q9 ce H locs h1 h2 h3 hw => ?_) (fun r9 H locs h1 hw => nomatch h1)
          obtain ⟨σ7, eρ, hw⟩ := xw_unc2 (xPlus_LE hE) hw
          replace hf := hf σ7 eρ
          clear eρ hcl
          obtain ⟨k9, h9, h3⟩ := h3
          obtain rfl := Sum.inr.inj h9
          obtain ⟨x1, het, e1⟩ := x_tab1 htab
          simp only [Prod.mk.injEq] at e1
          refine vx_catch (E := xcls 3) (name := xcls 3) hown [] x1 [] (by rw [het]; rfl) (fun z hz => by cases hz) (by rw [covers, e1.1, e1.2.1]; decide) (by rw [e1.2.2.2]; decide) (by rw [e1.2.2.2]; exact hts (.classLink RL 229 "java/util/NoSuchElementException") (by decide +kernel)) (va_Nw.use (by decide +kernel) (hG.1 (.castable "java/util/NoSuchElementException" "java/util/NoSuchElementException") (by decide +kernel))) h1 h2 h3 ?_
          rw [e1.2.2.1]
          refine lv_astore (lv' := [(8, .ref q9), (5, .int v5), (4, .int r1), (0, .ref (E.a 52)), (1, .ref q1), (2, .ref q2), (3, .ref q3)]) hx hb dL_isMixed_158 hl (by decide) rfl (fun ls hl => ?_)
          refine lv_aload_n hx hb dL_isMixed_160 rfl (lv_at hl 4 rfl) ?_
          refine lv_aload_n hx hb dL_isMixed_161 rfl (lv_at hl 6 rfl) ?_
          refine lv_iload hx hb dL_isMixed_162 (lv_at hl 2 rfl) ?_
          refine lv_iload hx hb dL_isMixed_164 (lv_at hl 1 rfl) ?_
          obtain ⟨r15, σ16, hcl, hf⟩ := xc2_f hf
          refine x_callLi (va_runS (As := [.ref q1, .ref q3, .int r1, .int v5]) (rest := []) ⟨hx, hb, hml, hown, hts⟩ (mL_isNoneX hl0 hE (X := [(q1, xInts E.cA 4 rd1), (q2, xInts E.cA 4 rd2), (q3, xInts E.cA 4 rd3)]) q1 q3 _ _ List.mem_cons_self (List.mem_cons_of_mem _ (List.mem_cons_of_mem _ List.mem_cons_self)) r1 v5 σ7 r15 σ16 hcl H.size) (cwS 4 hts gL_isMixed_L_isNone rfl rfl rfl (by decide +kernel) ⟨Nat.le_of_ble_eq_true rfl, Nat.le_of_ble_eq_true rfl⟩) (x_preLS _ hw hA hGL) rfl rfl hl.1 rfl (lv_room (Nat.le_of_ble_eq_true rfl)) dL_isMixed_166 ⟨show (((nc + 0) + 0) + 2) + 0 ≤ 47 by omega, show (((ns + 0) + 0) + 12) + 0 ≤ 276 by omega⟩) hw hA (fun H locs hw => ?_)
          clear hcl
          exact x_Xzret hx hb hr hlk (xw_drop hw) hf (show ((((nc + 0) + 0) + 2) + 0) ≤ 47 by omega) (show ((((ns + 0) + 0) + 12) + 0) ≤ 276 by omega) dL_isMixed_169
      · replace hf := xif_neg c18 hf
        refine lv_aload_n hx hb dL_isMixed_21 rfl (lv_at hl 1 rfl) ?_
        refine lv_iload hx hb dL_isMixed_22 (lv_at hl 4 rfl) ?_
        refine lv_aload_n hx hb dL_isMixed_24 rfl (lv_at hl 0 rfl) ?_
        refine x_getr hx hb hw (cL52 (xPlus_LE hE)) (own := RL) (ref := RL) (C := RL) (T := TL) (N := 10) hts hiL hown rfl 1 (by decide) hk34 (fun _ h9 => h9) rfl dL_isMixed_25 ?_
        refine lv_sipush (v := 201) hx hb dL_isMixed_28 (by decide) ?_
        obtain ⟨r17, σ18, hcl, hf⟩ := xc2_f hf
        refine x_callLi (va_runV (As := [.int 201]) (rest := [.int a4, .ref q1]) ⟨hx, hb, hml, hown, hts⟩ (mX12_next hl0 (xPlus_LE hE) 201 σ r17 σ18 hcl H.size) (cwV 1 hts gL_isMixed_X12_next rfl rfl rfl (by decide +kernel) ⟨Nat.le_of_ble_eq_true rfl, Nat.le_of_ble_eq_true rfl⟩) (x_preLV _ hw hA hGL (cL53 (xPlus_LE hE)) rfl) rfl rfl hl.1 rfl (lv_room (Nat.le_of_ble_eq_true rfl)) dL_isMixed_31 ⟨show nc + 0 ≤ 47 by omega, show ns + 0 ≤ 276 by omega⟩) hw hA (fun H locs hw => ?_)
        clear hcl
        obtain ⟨hin, hf⟩ := xbs_e hf
        refine x_rst hx hb hw (k := 0) rfl hin dL_isMixed_34 (fun H locs hw => ?_)
        obtain ⟨rd19, ex⟩ : ∃ r9 : Nat → Int32, r9 = upd rd1 (a4).toNatClampNeg r17 := ⟨_, rfl⟩
        replace hf := xl_f hf rd19 ex
        have hw : xw (xPlus E [(q1, xInts E.cA 4 rd19), (q2, xInts E.cA 4 rd2), (q3, xInts E.cA 4 rd3)]) A s.heap s σ18 H locs := by rw [ex]; exact hw
        clear ex hin
        refine lv_aload_n hx hb dL_isMixed_35 rfl (lv_at hl 2 rfl) ?_
        refine lv_iload hx hb dL_isMixed_36 (lv_at hl 4 rfl) ?_
        refine lv_aload_n hx hb dL_isMixed_38 rfl (lv_at hl 0 rfl) ?_
        refine x_getr hx hb hw (cL52 (xPlus_LE hE)) (own := RL) (ref := RL) (C := RL) (T := TL) (N := 10) hts hiL hown rfl 1 (by decide) hk34 (fun _ h9 => h9) rfl dL_isMixed_39 ?_
        refine lv_bipush (v := 100) hx hb dL_isMixed_42 (by decide) ?_
        obtain ⟨r20, σ21, hcl, hf⟩ := xc2_f hf
        refine x_callLi (va_runV (As := [.int 100]) (rest := [.int a4, .ref q2]) ⟨hx, hb, hml, hown, hts⟩ (mX12_next hl0 (xPlus_LE hE) 100 σ18 r20 σ21 hcl H.size) (cwV 1 hts gL_isMixed_X12_next rfl rfl rfl (by decide +kernel) ⟨Nat.le_of_ble_eq_true rfl, Nat.le_of_ble_eq_true rfl⟩) (x_preLV _ hw hA hGL (cL53 (xPlus_LE hE)) rfl) rfl rfl hl.1 rfl (lv_room (Nat.le_of_ble_eq_true rfl)) dL_isMixed_44 ⟨show (nc + 0) + 0 ≤ 47 by omega, show (ns + 0) + 0 ≤ 276 by omega⟩) hw hA (fun H locs hw => ?_)
        clear hcl
        obtain ⟨hin, hf⟩ := xbs_e hf
        refine x_rst hx hb hw (k := 1) rfl hin dL_isMixed_47 (fun H locs hw => ?_)
        obtain ⟨rd22, ex⟩ : ∃ r9 : Nat → Int32, r9 = upd rd2 (a4).toNatClampNeg r20 := ⟨_, rfl⟩
        replace hf := xl_f hf rd22 ex
        have hw : xw (xPlus E [(q1, xInts E.cA 4 rd19), (q2, xInts E.cA 4 rd22), (q3, xInts E.cA 4 rd3)]) A s.heap s σ21 H locs := by rw [ex]; exact hw
        clear ex hin
        refine lv_aload_n hx hb dL_isMixed_48 rfl (lv_at hl 3 rfl) ?_
        refine lv_iload hx hb dL_isMixed_49 (lv_at hl 4 rfl) ?_
        refine lv_aload_n hx hb dL_isMixed_51 rfl (lv_at hl 0 rfl) ?_
        refine x_getr hx hb hw (cL52 (xPlus_LE hE)) (own := RL) (ref := RL) (C := RL) (T := TL) (N := 10) hts hiL hown rfl 1 (by decide) hk34 (fun _ h9 => h9) rfl dL_isMixed_52 ?_
        refine lv_iconst (v := 3) hx hb dL_isMixed_55 (by decide) ?_
        obtain ⟨r23, σ24, hcl, hf⟩ := xc2_f hf
        refine x_callLi (va_runV (As := [.int 3]) (rest := [.int a4, .ref q3]) ⟨hx, hb, hml, hown, hts⟩ (mX12_next hl0 (xPlus_LE hE) 3 σ21 r23 σ24 hcl H.size) (cwV 1 hts gL_isMixed_X12_next rfl rfl rfl (by decide +kernel) ⟨Nat.le_of_ble_eq_true rfl, Nat.le_of_ble_eq_true rfl⟩) (x_preLV _ hw hA hGL (cL53 (xPlus_LE hE)) rfl) rfl rfl hl.1 rfl (lv_room (Nat.le_of_ble_eq_true rfl)) dL_isMixed_56 ⟨show ((nc + 0) + 0) + 0 ≤ 47 by omega, show ((ns + 0) + 0) + 0 ≤ 276 by omega⟩) hw hA (fun H locs hw => ?_)
        clear hcl
        refine lv_if_ne (tgt := 67) hx hb dL_isMixed_59 (by decide) (fun c59 => ?_) (fun c59 => ?_)
        · replace hf := xif_neg c59 hf
          refine lv_bipush (v := 10) hx hb dL_isMixed_67 (by decide) ?_
          refine lv_aload_n hx hb dL_isMixed_69 rfl (lv_at hl 0 rfl) ?_
          refine x_getr hx hb hw (cL52 (xPlus_LE hE)) (own := RL) (ref := RL) (C := RL) (T := TL) (N := 10) hts hiL hown rfl 1 (by decide) hk34 (fun _ h9 => h9) rfl dL_isMixed_70 ?_
          refine lv_bipush (v := 11) hx hb dL_isMixed_73 (by decide) ?_
          obtain ⟨r25, σ26, hcl, hf⟩ := xc2_f hf
          refine x_callLi (va_runV (As := [.int 11]) (rest := [.int 10, .int a4, .ref q3]) ⟨hx, hb, hml, hown, hts⟩ (mX12_next hl0 (xPlus_LE hE) 11 σ24 r25 σ26 hcl H.size) (cwV 1 hts gL_isMixed_X12_next rfl rfl rfl (by decide +kernel) ⟨Nat.le_of_ble_eq_true rfl, Nat.le_of_ble_eq_true rfl⟩) (x_preLV _ hw hA hGL (cL53 (xPlus_LE hE)) rfl) rfl rfl hl.1 rfl (lv_room (Nat.le_of_ble_eq_true rfl)) dL_isMixed_75 ⟨show (((nc + 0) + 0) + 0) + 0 ≤ 47 by omega, show (((ns + 0) + 0) + 0) + 0 ≤ 276 by omega⟩) hw hA (fun H locs hw => ?_)
          clear hcl
          refine lv_imul hx hb dL_isMixed_78 ?_
          exact h79 a4 (10 * r25) a4 rd19 rd22 rd3 σ26 _ _ _ ((((nc + 0) + 0) + 0) + 0) ((((ns + 0) + 0) + 0) + 0) _ _ _ hw (lv_sub hl [0, 1, 2, 3, 4] rfl) hf (by omega) (by omega)
        · replace hf := xif_pos c59 hf
          refine lv_bipush (v := 100) hx hb dL_isMixed_62 (by decide) ?_
          refine lv_goto (tgt := 79) hx hb dL_isMixed_64 (by decide) ?_
          exact h79 a4 100 a4 rd19 rd22 rd3 σ24 _ _ _ (((nc + 0) + 0) + 0) (((ns + 0) + 0) + 0) _ _ _ hw (lv_sub hl [0, 1, 2, 3, 4] rfl) hf (by omega) (by omega)
  refine lv_iconst (v := 4) hx hb dL_isMixed_0 (by decide) ?_
  have hw : xw (xPlus E []) A s.heap s σ s.heap _ := (by rw [xPlus_nil]; exact hw)
  refine x_newX hx hb (hts (.arrayClass .int) (by decide +kernel)) hw hA (N' := 4) (by decide) (by decide) (Nat.le_of_ble_eq_true rfl) (show 0 + 1 ≤ 47 by omega) (show 0 + 4 ≤ 276 by omega) dL_isMixed_1 (fun q1 H hw => ?_)
  have hw : xw (xPlus E [(q1, xInts E.cA 4 (fun _ => 0))]) A s.heap s σ H _ := hw
  refine lv_astore_n (lv' := [(1, .ref q1), (0, .ref (E.a 52))]) hx hb dL_isMixed_3 rfl hl (by decide) rfl (fun ls hl => ?_)
  refine lv_iconst (v := 4) hx hb dL_isMixed_4 (by decide) ?_
  refine x_newX hx hb (hts (.arrayClass .int) (by decide +kernel)) hw hA (N' := 4) (by decide) (by decide) (Nat.le_of_ble_eq_true rfl) (show (0 + 1) + 1 ≤ 47 by omega) (show (0 + 4) + 4 ≤ 276 by omega) dL_isMixed_5 (fun q2 H hw => ?_)
  have hw : xw (xPlus E [(q1, xInts E.cA 4 (fun _ => 0)), (q2, xInts E.cA 4 (fun _ => 0))]) A s.heap s σ H _ := hw
  refine lv_astore_n (lv' := [(2, .ref q2), (1, .ref q1), (0, .ref (E.a 52))]) hx hb dL_isMixed_7 rfl hl (by decide) rfl (fun ls hl => ?_)
  refine lv_iconst (v := 4) hx hb dL_isMixed_8 (by decide) ?_
  refine x_newX hx hb (hts (.arrayClass .int) (by decide +kernel)) hw hA (N' := 4) (by decide) (by decide) (Nat.le_of_ble_eq_true rfl) (show ((0 + 1) + 1) + 1 ≤ 47 by omega) (show ((0 + 4) + 4) + 4 ≤ 276 by omega) dL_isMixed_9 (fun q3 H hw => ?_)
  have hw : xw (xPlus E [(q1, xInts E.cA 4 (fun _ => 0)), (q2, xInts E.cA 4 (fun _ => 0)), (q3, xInts E.cA 4 (fun _ => 0))]) A s.heap s σ H _ := hw
  refine lv_astore_n (lv' := [(3, .ref q3), (2, .ref q2), (1, .ref q1), (0, .ref (E.a 52))]) hx hb dL_isMixed_11 rfl hl (by decide) rfl (fun ls hl => ?_)
  refine lv_iconst (v := 0) hx hb dL_isMixed_12 (by decide) ?_
  refine lv_istore (lv' := [(4, .int 0), (3, .ref q3), (2, .ref q2), (1, .ref q1), (0, .ref (E.a 52))]) hx hb dL_isMixed_13 hl (by decide) rfl (fun ls hl => ?_)
  exact h15 xF5 0 (fun _ => 0) (fun _ => 0) (fun _ => 0) σ _ _ _ (((0 + 1) + 1) + 1) (((0 + 4) + 4) + 4) _ _ _ hw (lv_sub hl [4, 3, 2, 1, 0] rfl) hf (by omega) (by omega)
