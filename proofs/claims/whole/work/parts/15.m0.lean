def m0X0 : Mem := fun k _ => 0
def m0X2 : Mem := fun k _ => 0
def m0X3 : Mem := fun k _ => 0
def m0X5 : Mem := fun k _ => 0
def m0X6 : Mem := fun k _ => if k = 0 then (100 : Int32) else if k = 1 then (1000 : Int32) else if k = 2 then (1000 : Int32) else if k = 3 then (1 : Int32) else 0
def m0X8 : Mem := fun k _ => 0
def m0X10 : Mem := fun k _ => 0
def m0X7 : Mem := fun k _ => if k = 8 then (-1 : Int32) else 0
def m0X1 : Mem := fun k _ => 0
def m0X9 : Mem := fun k _ => 0
def m0X4 : Mem := fun k _ => if k = 3 then (-1 : Int32) else if k = 4 then (-1 : Int32) else 0
def m0X12 : Mem := fun k => if k = 0 then (upd (upd (upd (upd (upd (fun _ => 0) ((14 : Int32)).toNatClampNeg (-1 : Int32)) ((8 : Int32)).toNatClampNeg (100 : Int32)) ((9 : Int32)).toNatClampNeg (1000 : Int32)) ((10 : Int32)).toNatClampNeg (1000 : Int32)) ((11 : Int32)).toNatClampNeg (1 : Int32)) else fun _ => 0
