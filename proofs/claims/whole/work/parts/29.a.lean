/-! the model's numbers: platformTold, lineTold, riderTold, counted -/
def platToldM (M : zM) (n w : Int) : Int := if w = 0 then M 1 0 n.toNat else if w = 1 then M 2 0 n.toNat else if w = 2 then M 3 0 n.toNat else if w = 3 then M 18 0 n.toNat else if w = 4 then (if M 18 0 n.toNat = 0 then -1 else M 19 0 (12 * n).toNat) else if w = 5 then zcnt (fun j => M 4 0 j = n) (M 0 0 5).toNat else if w = 6 then zcnt (fun j => M 5 0 j = n) (M 0 0 5).toNat else zcnt (fun j => M 20 0 j = 2 ∧ M 10 0 j = n) (M 0 0 10).toNat
def lineToldM (M : zM) (n w : Int) : Int := if w = 0 then M 4 0 n.toNat else if w = 1 then M 5 0 n.toNat else if w = 2 then M 6 0 n.toNat else if w = 3 then lenM M n else if w = 4 then dropM M n else if w = 5 then M 12 0 n.toNat else if w = 6 then M 12 0 n.toNat - M 13 0 n.toNat else if w = 7 then ridingM M 0 n else if w = 8 then M 16 0 n.toNat else if w = 9 then M 17 0 n.toNat else if closedM M n (M 11 0 0) then 1 else 0
def countedM (M : zM) (w : Int) : Int := if w = 0 then M 11 0 0 else if w = 1 then M 0 0 1 else if w = 2 then M 0 0 5 else if w = 3 then M 0 0 10 else if w = 4 then manyM M 0 0 else if w = 5 then manyM M 0 1 else if w = 6 then manyM M 0 2 else if w = 7 then manyM M 0 3 else if w = 8 then zsum (fun j => M 12 0 j) (M 0 0 5).toNat else zsum (fun j => M 16 0 j) (M 0 0 5).toNat
def riderToldM (M : zM) (n w : Int) : Int := if w = 0 then M 8 0 n.toNat else if w = 1 then M 9 0 n.toNat else if w = 2 then M 10 0 n.toNat else if w = 3 then M 20 0 n.toNat
  else if w = 4 then (if M 20 0 n.toNat = 0 ∨ M 20 0 n.toNat = 2 then M 21 0 n.toNat else -1)
  else if w = 5 then (if M 20 0 n.toNat = 1 then M 21 0 n.toNat else -1)
  else if w = 6 then (if M 20 0 n.toNat = 0 then M 22 0 n.toNat else if M 20 0 n.toNat = 1 then leftM M 0 n else 0)
  else if w = 7 then (if M 20 0 n.toNat = 0 then (if 0 < fewN M (M 10 0 n.toNat) (M 8 0 n.toNat) 61 (M 21 0 n.toNat) then fewN M (M 10 0 n.toNat) (M 8 0 n.toNat) 61 (M 21 0 n.toNat) else 0) else 0)
  else if w = 8 then (if M 20 0 n.toNat = 0 then firstM M (M 21 0 n.toNat) (M 10 0 n.toNat) (M 8 0 n.toNat) else -1)
  else if w = 9 then M 23 0 n.toNat else M 24 0 n.toNat
theorem riderToldM_4 {M : zM} {n : Int} : riderToldM M n 4 = (if M 20 0 n.toNat = 0 ∨ M 20 0 n.toNat = 2 then M 21 0 n.toNat else -1) := rfl
theorem riderToldM_5 {M : zM} {n : Int} : riderToldM M n 5 = (if M 20 0 n.toNat = 1 then M 21 0 n.toNat else -1) := rfl
theorem riderToldM_6 {M : zM} {n : Int} : riderToldM M n 6 = (if M 20 0 n.toNat = 0 then M 22 0 n.toNat else if M 20 0 n.toNat = 1 then leftM M 0 n else 0) := rfl
theorem riderToldM_7 {M : zM} {n : Int} : riderToldM M n 7 = (if M 20 0 n.toNat = 0 then (if 0 < fewN M (M 10 0 n.toNat) (M 8 0 n.toNat) 61 (M 21 0 n.toNat) then fewN M (M 10 0 n.toNat) (M 8 0 n.toNat) 61 (M 21 0 n.toNat) else 0) else 0) := rfl
theorem riderToldM_8 {M : zM} {n : Int} : riderToldM M n 8 = (if M 20 0 n.toNat = 0 then firstM M (M 21 0 n.toNat) (M 10 0 n.toNat) (M 8 0 n.toNat) else -1) := rfl
def kPlatM (M : zM) (n w : Int) : Int := if (0 ≤ n ∧ n ≤ M 0 0 1 - 1) ∧ (0 ≤ w ∧ w ≤ 7) then 0 else 1
def platFM (M : zM) (n w : Int) : zM := if kPlatM M n w = 0 then zup M 0 0 0 0 else thM M (kPlatM M n w)
def platFR (M : zM) (n w : Int) : Int := if kPlatM M n w = 0 then platToldM (zup M 0 0 0 0) n w else 0
def kLineM (M : zM) (n w : Int) : Int := if (0 ≤ n ∧ n ≤ M 0 0 5 - 1) ∧ (0 ≤ w ∧ w ≤ 10) then 0 else 1
def lineFM (M : zM) (n w : Int) : zM := if kLineM M n w = 0 then zup M 0 0 0 0 else thM M (kLineM M n w)
def lineFR (M : zM) (n w : Int) : Int := if kLineM M n w = 0 then lineToldM (zup M 0 0 0 0) n w else 0
def kRiderM (M : zM) (n w : Int) : Int := if (0 ≤ n ∧ n ≤ M 0 0 10 - 1) ∧ (0 ≤ w ∧ w ≤ 10) then 0 else 1
def riderFM (M : zM) (n w : Int) : zM := if kRiderM M n w = 0 then zup M 0 0 0 0 else thM M (kRiderM M n w)
def riderFR (M : zM) (n w : Int) : Int := if kRiderM M n w = 0 then riderToldM (zup M 0 0 0 0) n w else 0
def kCountM (w : Int) : Int := if 0 ≤ w ∧ w ≤ 9 then 0 else 1
def countFM (M : zM) (w : Int) : zM := if kCountM w = 0 then zup M 0 0 0 0 else thM M (kCountM w)
def countFR (M : zM) (w : Int) : Int := if kCountM w = 0 then countedM (zup M 0 0 0 0) w else 0
