/** The calls that README.md shows under "Use", in its order, answer what it says behind them. */
public final class UseTest extends Checks {
  public static void main(String[] args) {
    about("README.md, Use");
    NeedleTelegraph x = new NeedleTelegraph();
    due("count(9)", x.count(9), 0);
    write(x, "c0,2,0;c3,1,0;m1,0,pus;i0;");
    due("fault()", x.fault(), -4);
    due("lay()", x.lay(), 2);
    due("out(0, 0)", x.out(0, 0), -4);
    due("bring(1)", x.bring(1), 1);
    due("rain(0)", x.rain(0), 0);
    due("out(0, 0)", x.out(0, 0), 3);
    due("pass(3)", x.pass(3), 1);
    due("message(0, 3)", x.message(0, 3), 39);
    due("row(ups)", row("ups"), 39);
    due("undo()", x.undo(), 1);
    due("code(1, 39)", x.code(1, 39), 27);
    due("row(pus)", row("pus"), 27);
    due("slips(1, 27, 1, 0)", x.slips(1, 27, 1, 0), 81);
    due("slips(1, 27, 1, 1)", x.slips(1, 27, 1, 1), 100);
    due("pass(61)", x.pass(61), -1);
    finish();
  }
}
