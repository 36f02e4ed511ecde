/** Promise 13. */
public final class PowerTest {
    public static void main(String[] args) {
        Due due = new Due();
        CellRack rack = new CellRack();
        due.is("power() when it is on", false, rack::power);
        rack.lose(1);
        due.is("power() before it is lost", false, rack::power);
        due.is("nothing is said: look(2)", -1, () -> rack.look(2));
        due.is("a write is done", true, () -> rack.write(0, 0, 7));
        rack.lose(1);
        rack.write(0, 0, 8);
        due.is("look(1)", 1, () -> rack.look(1));
        due.is("power() when it is off", true, rack::power);
        due.is("power() once more", false, rack::power);
        due.is("look(1)", 0, () -> rack.look(1));
        due.is("look(2)", -1, () -> rack.look(2));
        due.is("cells stay", 7, () -> rack.tag(0, 0));
        for (int i = 0; i < 20; i++) {
            due.is("writes are done", true, () -> rack.write(0, 0, 9));
        }
        due.is("look(0)", 21, () -> rack.look(0));
        rack.lose(1);
        due.is("it can be lost again", false, () -> rack.write(0, 0, 9));
        due.end();
    }
}
