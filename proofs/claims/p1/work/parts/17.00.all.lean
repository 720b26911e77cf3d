/-! All methods. -/
def x_MT : List xM := x_MT0 ++ x_MT1 ++ x_MT2 ++ x_MT3 ++ x_MT4 ++ x_MT5 ++ x_MT6 ++ x_MT7 ++ x_MT8 ++ x_MT9 ++ x_MT10 ++ x_MT11 ++ x_MT12
