/** Promises 61 and 62: the written text. */
final class WritingTests {
    private WritingTests() {
    }

    static void promise61WriteEntries() {
        NightPorter porter = new NightPorter();
        porter.leave(0);
        porter.passMinutes(9);
        porter.leave(1);
        porter.comeBack(0);
        porter.passMinutes(1);
        porter.leave(0);
        porter.passMinutes(90);
        porter.comeBack(0);
        porter.passMinutes(5);
        porter.leave(0);
        porter.passMinutes(240);
        porter.passMinutes(240);
        porter.passMinutes(135);
        porter.comeBack(0);
        Check.same("-0\n+9\n-10\n+100\n-105\n+720\n", Check.written(porter, 0));
        Check.same("-9\n", Check.written(porter, 1));
        Check.same(0, porter.writeEntries(2));
        Check.fails(Check.INDEX, () -> porter.writeEntries(3));
        Check.fails(Check.INDEX, () -> porter.writeEntries(-1));
    }

    static void promise61WriteAFullRegister() {
        NightPorter porter = new NightPorter();
        porter.passMinutes(240);
        StringBuilder due = new StringBuilder();
        for (int i = 0; i < 30; i++) {
            porter.leave(2);
            porter.comeBack(2);
            due.append("-240\n+240\n");
        }
        Check.same(due.toString(), Check.written(porter, 2));
    }

    static void promise61FailedWritingKeepsTheText() {
        NightPorter porter = new NightPorter();
        porter.leave(0);
        porter.writeEntries(0);
        Check.fails(Check.INDEX, () -> porter.writeEntries(3));
        Check.same('-', porter.writtenByte(0));
    }

    static void promise62WrittenByte() {
        NightPorter porter = new NightPorter();
        porter.leave(0);
        Check.fails(Check.INDEX, () -> porter.writtenByte(0));
        Check.same(3, porter.writeEntries(0));
        Check.same(45, porter.writtenByte(0));
        Check.same(48, porter.writtenByte(1));
        Check.same(10, porter.writtenByte(2));
        Check.fails(Check.INDEX, () -> porter.writtenByte(3));
        Check.fails(Check.INDEX, () -> porter.writtenByte(-1));
        Check.fails(Check.INDEX, () -> porter.writtenByte(Integer.MAX_VALUE));
        porter.comeBack(0);
        Check.fails(Check.INDEX, () -> porter.writtenByte(3));
        porter.writeEntries(0);
        Check.same(43, porter.writtenByte(3));
        porter.undo();
        Check.same(43, porter.writtenByte(3));
        porter.writeEntries(1);
        Check.fails(Check.INDEX, () -> porter.writtenByte(0));
    }
}
