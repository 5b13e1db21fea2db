abbrev vwCl : List vw_C := [(RX0, TX0, 13), (RX1, TX1, 10), (RX2, TX2, 5), (RX3, TX3, 6), (RX4, TX4, 6), (RX5, TX5, 6), (RX6, TX6, 17), (RX7, TX7, 4), (RX8, TX8, 9), (RX9, TX9, 7), (RX10, TX10, 3)]
