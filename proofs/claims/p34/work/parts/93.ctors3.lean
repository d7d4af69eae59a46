/-! THE CONSTRUCTOR of the reference (printed by ctor.py) -/
def m0 : Int → Int := up1 (up1 (up1 (up1 (up1 (up1 (up1 (up1 (up1 (up1 (z0) 17 10) 18 4) 19 20) 20 5) 21 3) 22 4) 23 12) 24 20) 25 3) 26 100
