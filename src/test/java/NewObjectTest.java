/** Promise 1, with what the terms say of a new object; and that two objects share nothing. */
final class NewObjectTest {
    private static final Check CHECK = new Check();

    public static void main(String[] args) {
        isNew("new", new UserCore());
        changeAll(new UserCore());
        isNew("new behind a changed one", new UserCore());
        CHECK.end();
    }

    private static void isNew(String what, UserCore core) {
        for (int address = 0; address < 16384; address++) {
            CHECK.due(what + ": peek(" + address + ")", core.peek(address), 0);
        }
        for (int k = 0; k < 32; k++) {
            CHECK.due(what + ": register(" + k + ")", core.register(k), 0);
        }
        CHECK.due(what + ": pc()", core.pc(), 0);
        CHECK.due(what + ": trap()", core.trap(), -1);
        CHECK.due(what + ": value()", core.value(), 0);
        CHECK.due(what + ": done()", core.done(), 0);
    }

    private static void changeAll(UserCore core) {
        for (int address = 0; address < 16384; address += 8) {
            core.poke(address, 8, -1L);
        }
        for (int k = 0; k < 32; k++) {
            core.set(k, -1);
        }
        for (int page = 0; page < 4; page++) {
            core.protect(page, 0);
        }
        core.jump(7);
        core.run(1);
    }
}
