/-! what the class's writing methods leave -/
def ldC (dp pl : Int32) (mf qf : IF) (n : Int32) (cf : IF) : IF := itN (fun j c => wrA 258 c (nI j) (srcW dp mf qf (pl + 1 + nI j))) n.toNatClampNeg cf
def rdC (dp pl sl : Int32) (mf qf : IF) (kd mn : Int32) (cf : IF) : Int32 × Int32 × Int32 × IF :=
  if pl < srcL dp sl then (if isKd (srcW dp mf qf pl) = 0 then (2, kd, mn, cf) else
    if pl + argH dp pl sl mf qf (srcW dp mf qf pl) < srcL dp sl then (0, srcW dp mf qf pl, argH dp pl sl mf qf (srcW dp mf qf pl), ldC dp pl mf qf (argH dp pl sl mf qf (srcW dp mf qf pl)) cf) else (1, kd, mn, cf))
  else ((if dp ≤ 0 then 0 else 1), (if dp ≤ 0 then 0 else kd), (if dp ≤ 0 then 0 else mn), cf)
def rfH (dn dp pl sl fw fh qu : Int32) (mf qf : IF) (sf wf : IF) (kd mn : Int32) (cf : IF) : Int32 :=
  if dn < 2000 then (if (rdC dp pl sl mf qf kd mn cf).1 = 0 then
    (if vmB (rdC dp pl sl mf qf kd mn cf).2.1 (rdC dp pl sl mf qf kd mn cf).2.2.2 = 0 then 3 else
     if plT (rdC dp pl sl mf qf kd mn cf).2.1 fw fh (rdC dp pl sl mf qf kd mn cf).2.2.2 = 0 then 5 else
     if stA (rdC dp pl sl mf qf kd mn cf).2.1 dp qu (rdC dp pl sl mf qf kd mn cf).2.2.2 sf wf = 0 then 6 else 0)
    else (rdC dp pl sl mf qf kd mn cf).1) else 7
def rfC (dn dp pl sl : Int32) (mf qf : IF) (kd mn : Int32) (cf : IF) : Int32 × Int32 × IF := if dn < 2000 then (rdC dp pl sl mf qf kd mn cf).2 else (kd, mn, cf)
def stW (cf mf : IF) : IF := itN (fun j m => wrA 4096 m (rdA 258 cf 0 + nI j) (rdA 258 cf (2 + nI j))) (rdA 258 cf 1).toNatClampNeg mf
def kuI (sf mf : IF) (n fr : Int32) (w : IF) : IF := itN (fun j w => wrA 303 w (plc sf 5 n (nI j + 1)) (rdA 4096 mf (fr + nI j))) (4 : Int32).toNatClampNeg w
def kuA (sf mf cf wf : IF) : IF := itN (fun i w => kuI sf mf (rdA 258 cf 0 + nI i) (rdA 258 cf 2 + 4 * nI i) w) (rdA 258 cf 1).toNatClampNeg wf
def kpW (sf : IF) (kd mn : Int32) (cf wf : IF) : IF := if hld kd = 0 then wf else if nmH kd = 0 then itN (fun j w => wrA 303 w (plc sf kd 0 0 + nI j) (rdA 258 cf (nI j))) mn.toNatClampNeg wf else itN (fun j w => wrA 303 w (plc sf kd (rdA 258 cf 0) 0 + nI j) (rdA 258 cf (nI j))) mn.toNatClampNeg wf
def fgO (sf : IF) (k n : Int32) (w : IF) : IF := if nmH k = 0 then itN (fun j w => wrA 303 w (plc sf k n 0 + nI j) (colm k (nI j) 2)) (fxd k).toNatClampNeg w else wrA 303 (itN (fun j w => wrA 303 w (plc sf k n 0 + nI j) (colm k (nI j) 2)) (fxd k).toNatClampNeg w) (plc sf k n 0) n
def fgA (sf w : IF) : IF := itN (fun k w => itN (fun n w => fgO sf (nI k) (nI n) w) (hld (nI k)).toNatClampNeg w) (26 : Int32).toNatClampNeg w
/-- carrying out: place, depth, over, query, backs, told words, memory -/
def cry (pl dp ov qu kd mn : Int32) (bf cf sf wf mf : IF) : Int32 × Int32 × Int32 × Int32 × IF × IF × IF :=
  if kd = 0 then ((if dp = 0 then (pl + (1 + mn)) else rdA 4 bf (dp - 1)), (if dp = 0 then dp else (dp - 1)), (if dp = 0 then 1 else ov), qu, bf, wf, mf)
  else if kd = 6 then ((pl + (1 + mn)), dp, ov, qu, bf, kuA sf mf cf wf, mf)
  else if kd = 19 then (if rdA 258 cf 1 = 1 then ((pl + (1 + mn)), dp, ov, rdA 258 cf 0, bf, wf, mf) else ((pl + (1 + mn)), dp, ov, -1, bf, wf, mf))
  else if kd = 21 then ((pl + (1 + mn)), dp, ov, qu, bf, wf, stW cf mf)
  else if kd = 23 then (rdA 258 cf 0, dp + 1, ov, qu, wrA 4 bf dp (pl + (1 + mn)), wf, mf)
  else ((pl + (1 + mn)), dp, ov, qu, bf, kpW sf kd mn cf wf, mf)
